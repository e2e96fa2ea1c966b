import java.util.ArrayDeque;
import java.util.ArrayList;
import java.util.List;
import java.util.Map;
import java.util.TreeMap;
import java.util.TreeSet;

/**
 * The document written a second time, as plainly as can be and with no thought of speed: nothing is kept that can be
 * worked out from what was told.
 */
final class Model {
    private static final int NONE = -6, UNKNOWN = -1, OUTSIDE = -2, STATE = -3, FULL = -4, NO = -5;

    private record Shake(int day, int[] bands) { }

    private record Message(int number, int day, int level, int reason) { }

    private static final class Law {
        int level;
        int measure;
        int number;
        int span;
    }

    private static final class Node {
        Node parent;
        int low = 100;
        int high = 100;
        boolean feared;
    }

    private final List<Shake> shakes = new ArrayList<>();
    private final Map<Integer, Integer> tilts = new TreeMap<>();
    private final Map<Integer, Integer> gases = new TreeMap<>();
    private final List<Law> laws = new ArrayList<>();
    private final List<Message> messages = new ArrayList<>();
    private final List<Message> drills = new ArrayList<>();
    private final List<Node> nodes = new ArrayList<>();
    private int likeness = 90;
    private int today;
    private int level;
    private int calm;
    private int rest = 3;
    private int[] hold;
    private int messageNumbers;
    private int drillNumbers;
    private int latestDrill;

    Model() {
        nodes.add(new Node());
    }

    private static boolean in(long n, long least, long most) {
        return least <= n && n <= most;
    }

    private static boolean in(int i, List<?> list) {
        return in(i, 0, list.size() - 1);
    }

    private static long dot(int[] a, int[] b) {
        long sum = 0;
        for (int i = 0; i < 6; i++) {
            sum += (long) a[i] * b[i];
        }
        return sum;
    }

    private boolean near(int a, int b) {
        int[] p = shakes.get(a).bands();
        int[] q = shakes.get(b).bands();
        return 100 * dot(p, q) * dot(p, q) >= likeness * dot(p, p) * dot(q, q);
    }

    private TreeSet<Integer> hung(int shake) {
        TreeSet<Integer> found = new TreeSet<>(List.of(shake));
        ArrayDeque<Integer> open = new ArrayDeque<>(found);
        while (!open.isEmpty()) {
            int at = open.pop();
            for (int other = 0; other < shakes.size(); other++) {
                if (near(at, other) && found.add(other)) {
                    open.push(other);
                }
            }
        }
        return found;
    }

    private List<TreeSet<Integer>> families() {
        List<TreeSet<Integer>> all = new ArrayList<>();
        TreeSet<Integer> seen = new TreeSet<>();
        for (int shake = 0; shake < shakes.size(); shake++) {
            if (!seen.contains(shake)) {
                all.add(hung(shake));
                seen.addAll(hung(shake));
            }
        }
        return all;
    }

    private static int kind(int[] b) {
        int low = b[0] + b[1] + b[2];
        int high = b[3] + b[4] + b[5];
        return low >= 2 * high ? 0 : high >= 2 * low ? 1 : 2;
    }

    int shake(long told) {
        long whole = 1;
        for (int i = 0; i < 6; i++) {
            whole *= 101;
        }
        if (told <= 0 || told >= whole) {
            return OUTSIDE;
        }
        if (shakes.size() == 80) {
            return FULL;
        }
        int[] bands = new int[6];
        for (int i = 0; i < 6; i++, told /= 101) {
            bands[i] = (int) (told % 101);
        }
        shakes.add(new Shake(today, bands));
        return shakes.size() - 1;
    }

    int about(int shake, int what) {
        if (!in(shake, shakes)) {
            return UNKNOWN;
        }
        Shake s = shakes.get(shake);
        return what == 0 ? s.day() : what == 1 ? kind(s.bands()) : what == 2 ? hung(shake).first()
                : in(what, 10, 15) ? s.bands()[what - 10] : OUTSIDE;
    }

    int alike(int a, int b) {
        return !in(a, shakes) || !in(b, shakes) ? UNKNOWN : near(a, b) ? 1 : 0;
    }

    int likeness(int n) {
        if (!in(n, 1, 100)) {
            return OUTSIDE;
        }
        int was = likeness;
        likeness = n;
        return was;
    }

    int family(int i) {
        List<TreeSet<Integer>> all = families();
        return i == -1 ? all.size() : in(i, all) ? all.get(i).first() : NONE;
    }

    int kin(int shake) {
        return in(shake, shakes) ? hung(shake).size() : UNKNOWN;
    }

    int tilt(int v) {
        if (!in(v, -10000, 10000)) {
            return OUTSIDE;
        }
        tilts.put(today, v);
        return 1;
    }

    int gas(int v) {
        if (!in(v, 0, 10000)) {
            return OUTSIDE;
        }
        gases.put(today, v);
        return 1;
    }

    private Integer tiltUpTo(int day) {
        for (int d = day; d >= 0; d--) {
            if (tilts.containsKey(d)) {
                return tilts.get(d);
            }
        }
        return null;
    }

    int tiltAt(int day) {
        if (!in(day, 0, today)) {
            return -1000001;
        }
        Integer tilt = tiltUpTo(day);
        return tilt == null ? -1000005 : tilt;
    }

    int gasOf(int day) {
        return in(day, 0, today) ? gases.getOrDefault(day, 0) : UNKNOWN;
    }

    int law(int lawLevel, int measure, int number, int span) {
        if (!in(lawLevel, 1, 4) || !in(measure, 0, 6) || !in(number, 1, 10000) || !in(span, 1, 30)) {
            return OUTSIDE;
        }
        if (laws.size() == 8) {
            return FULL;
        }
        Law law = new Law();
        law.level = lawLevel;
        law.measure = measure;
        law.number = number;
        law.span = span;
        laws.add(law);
        return laws.size() - 1;
    }

    int change(int law, int lawLevel, int number) {
        if (!in(law, laws)) {
            return UNKNOWN;
        }
        if (!in(lawLevel, 1, 4) || !in(number, 1, 10000)) {
            return OUTSIDE;
        }
        laws.get(law).level = lawLevel;
        laws.get(law).number = number;
        return 1;
    }

    private int measured(Law law, int d) {
        int kinds = 0;
        int all = 0;
        int gas = 0;
        TreeSet<Integer> within = new TreeSet<>();
        for (int day = d - law.span + 1; day <= d; day++) {
            gas += gases.getOrDefault(day, 0);
            for (int i = 0; i < shakes.size(); i++) {
                if (shakes.get(i).day() == day) {
                    all++;
                    kinds += kind(shakes.get(i).bands()) == law.measure ? 1 : 0;
                    within.add(i);
                }
            }
        }
        switch (law.measure) {
            case 3:
                return all;
            case 4:
                int most = 0;
                for (TreeSet<Integer> family : families()) {
                    family.retainAll(within);
                    most = Math.max(most, family.size());
                }
                return most;
            case 5:
                Integer now = tiltUpTo(d);
                Integer then = tiltUpTo(d - law.span);
                return now == null || then == null ? 0 : Math.abs(now - then);
            case 6:
                return gas;
            default:
                return kinds;
        }
    }

    int measure(int law, int day) {
        return in(law, laws) && in(day, 0, today) ? measured(laws.get(law), day) : UNKNOWN;
    }

    int isTrue(int law, int day) {
        int measured = measure(law, day);
        return measured < 0 ? UNKNOWN : measured >= laws.get(law).number ? 1 : 0;
    }

    int rest(int days) {
        if (!in(days, 1, 30)) {
            return OUTSIDE;
        }
        int was = rest;
        rest = days;
        return was;
    }

    private int held() {
        return hold != null && today < hold[1] ? hold[0] : 0;
    }

    private int wanted() {
        int wanted = held();
        for (int i = 0; i < laws.size(); i++) {
            if (isTrue(i, today) == 1) {
                wanted = Math.max(wanted, laws.get(i).level);
            }
        }
        return wanted;
    }

    private void keep(List<Message> list, int number, int atLevel, int reason) {
        if (messages.size() + drills.size() < 200) {
            list.add(new Message(number, today, atLevel, reason));
        }
    }

    int next() {
        if (today == 999) {
            return STATE;
        }
        int wanted = wanted();
        int was = level;
        int reason = 21;
        calm = wanted < level ? calm + 1 : 0;
        if (wanted > level) {
            level = wanted;
            reason = 20;
            for (int i = laws.size() - 1; i >= 0; i--) {
                reason = laws.get(i).level == wanted && isTrue(i, today) == 1 ? i : reason;
            }
        } else if (calm >= rest) {
            level--;
        }
        if (level != was) {
            calm = 0;
            keep(messages, ++messageNumbers, level, reason);
        }
        today++;
        return level;
    }

    int hold(int holdLevel, int days) {
        if (!in(holdLevel, 1, 4) || !in(days, 1, 100)) {
            return OUTSIDE;
        }
        hold = new int[] {holdLevel, today + days};
        return today + days;
    }

    int release() {
        int was = held();
        hold = null;
        return was;
    }

    int word(int to) {
        if (!in(to, 0, 4)) {
            return OUTSIDE;
        }
        level = to;
        calm = 0;
        keep(messages, ++messageNumbers, to, 22);
        return messageNumbers;
    }

    int drill(int at) {
        if (!in(at, 0, 4)) {
            return OUTSIDE;
        }
        latestDrill = at;
        keep(drills, ++drillNumbers, at, 23);
        return drillNumbers;
    }

    int message(boolean ofDrills, int number, int what) {
        for (Message m : ofDrills ? drills : messages) {
            if (m.number() == number) {
                return what == 0 ? m.day() : what == 1 ? m.level() : what == 2 ? m.reason() : OUTSIDE;
            }
        }
        return UNKNOWN;
    }

    int told(int what) {
        int[] all = {today, level, calm, 0, messageNumbers, drillNumbers, held(), shakes.size(), laws.size(),
            nodes.size(), latestDrill};
        return what == 3 ? wanted() : in(what, 0, 10) ? all[what] : OUTSIDE;
    }

    private List<Node> children(Node of) {
        List<Node> found = new ArrayList<>();
        for (Node n : nodes) {
            if (n.parent == of) {
                found.add(n);
            }
        }
        return found;
    }

    private static int depth(Node n) {
        return n.parent == null ? 0 : 1 + depth(n.parent);
    }

    int node(int parent, int low, int high) {
        if (!in(parent, nodes)) {
            return UNKNOWN;
        }
        if (!in(low, 0, 100) || !in(high, 0, 100) || low > high) {
            return OUTSIDE;
        }
        if (nodes.size() == 24) {
            return FULL;
        }
        Node above = nodes.get(parent);
        if (depth(above) == 4 || children(above).size() == 6) {
            return NO;
        }
        Node n = new Node();
        n.parent = above;
        n.low = low;
        n.high = high;
        nodes.add(n);
        return nodes.size() - 1;
    }

    int share(int node, int low, int high) {
        if (!in(node, 1, nodes.size() - 1)) {
            return UNKNOWN;
        }
        if (!in(low, 0, 100) || !in(high, 0, 100) || low > high) {
            return OUTSIDE;
        }
        nodes.get(node).low = low;
        nodes.get(node).high = high;
        return 1;
    }

    int fear(int node, boolean is) {
        if (!in(node, nodes)) {
            return UNKNOWN;
        }
        int was = nodes.get(node).feared ? 1 : 0;
        nodes.get(node).feared = is;
        return was;
    }

    /**
     * The least (or greatest) chance, times 100 to the fourth, by trying every whole share of every child; -1: no
     * shares are 100 together.
     */
    private long bestChance(Node n, boolean greatest) {
        List<Node> below = children(n);
        if (below.isEmpty()) {
            return n.feared ? 100000000 : 0;
        }
        long[] best = new long[101];
        java.util.Arrays.fill(best, -1);
        best[0] = 0;
        for (Node child : below) {
            long each = bestChance(child, greatest);
            long[] more = new long[101];
            java.util.Arrays.fill(more, -1);
            for (int sum = 0; sum <= 100; sum++) {
                for (int share = child.low; best[sum] >= 0 && share <= child.high && sum + share <= 100; share++) {
                    long way = best[sum] + share * each;
                    long known = more[sum + share];
                    more[sum + share] = known < 0 ? way : greatest ? Math.max(known, way) : Math.min(known, way);
                }
            }
            best = more;
        }
        if (best[100] % 100 != 0 && best[100] >= 0) {
            throw new IllegalStateException("a chance that would have to be cut");
        }
        return best[100] < 0 ? -1 : best[100] / 100;
    }

    int sound() {
        for (Node n : nodes) {
            boolean[] reached = new boolean[101];
            reached[0] = true;
            List<Node> below = children(n);
            for (Node child : below) {
                boolean[] more = new boolean[101];
                for (int sum = 0; sum <= 100; sum++) {
                    for (int share = child.low; share <= child.high && sum + share <= 100; share++) {
                        more[sum + share] |= reached[sum];
                    }
                }
                reached = more;
            }
            if (!below.isEmpty() && !reached[100]) {
                return 0;
            }
        }
        return 1;
    }

    int chance(int node, int side) {
        if (!in(node, nodes)) {
            return UNKNOWN;
        }
        if (!in(side, 0, 1)) {
            return OUTSIDE;
        }
        return sound() == 0 ? NO : (int) bestChance(nodes.get(node), side == 1);
    }

    int ofNode(int node, int what) {
        if (!in(node, nodes)) {
            return UNKNOWN;
        }
        Node n = nodes.get(node);
        int[] all = {nodes.indexOf(n.parent) < 0 ? NONE : nodes.indexOf(n.parent), n.low, n.high, n.feared ? 1 : 0,
            children(n).size(), depth(n)};
        return in(what, 0, 5) ? all[what] : OUTSIDE;
    }
}
