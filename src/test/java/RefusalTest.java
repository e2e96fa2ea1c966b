import java.util.ArrayList;
import java.util.List;
import java.util.Set;

/**
 * Every call with every choice of numbers at the edges, in states from empty to full: the answer is the model's, and
 * a call that is refused, or that asks alone, changes nothing that any later call shows.
 */
public final class RefusalTest {
    private static final int LEAST = Integer.MIN_VALUE, MOST = Integer.MAX_VALUE;
    private static final Set<String> QUESTIONS = Set.of("about", "alike", "family", "kin", "tiltAt", "gasOf", "measure",
            "isTrue", "message", "told", "sound", "chance", "ofNode");

    private final Check check;
    private final Scene scene;
    private Model model;
    /** All calls that change nothing, one behind the other. */
    private final List<Call> idle = new ArrayList<>();

    private RefusalTest(Check check, Scene scene) {
        this.check = check;
        this.scene = scene;
        this.model = scene.model();
    }

    /** The numbers of things: those at either end of what is there, and of what there can be. */
    private long[] numbersOf(int what, int most) {
        int there = model.told(what);
        return new long[] {LEAST, -1, 0, 1, there - 1, there, there + 1, most - 1, most, MOST};
    }

    private static long[] around(int least, int most) {
        return new long[] {LEAST, least - 1, least, most, most + 1, MOST};
    }

    private static long[] fewAround(int least, int most) {
        return new long[] {least - 1, least, most, most + 1};
    }

    private void trySeen() {
        long[] shakes = numbersOf(7, 80);
        long[] days = numbersOf(0, 1000);
        tryAll("shake", new long[] {Long.MIN_VALUE, -1061520150600L, -101, -1, 0, 1, 100, 101, 1L << 32, 1061520150600L,
            1061520150601L, 1L << 40, Long.MAX_VALUE});
        tryAll("about", shakes, new long[] {LEAST, -1, 0, 2, 3, 9, 10, 15, 16, MOST});
        tryAll("alike", shakes, shakes);
        tryAll("likeness", around(1, 100));
        tryAll("family", new long[] {LEAST, -2, -1, 0, 1, 79, 80, MOST});
        tryAll("kin", shakes);
        tryAll("tilt", around(-10000, 10000));
        tryAll("gas", around(0, 10000));
        tryAll("tiltAt", days);
        tryAll("gasOf", days);
    }

    private void tryLevels() {
        long[] laws = numbersOf(8, 8);
        long[] days = numbersOf(0, 1000);
        tryAll("law", fewAround(1, 4), fewAround(0, 6), fewAround(1, 10000), fewAround(1, 30));
        tryAll("law", around(1, 4), new long[] {3}, new long[] {1}, new long[] {1});
        tryAll("law", new long[] {1}, around(0, 6), new long[] {1}, new long[] {1});
        tryAll("law", new long[] {1}, new long[] {3}, around(1, 10000), new long[] {1});
        tryAll("law", new long[] {1}, new long[] {3}, new long[] {1}, around(1, 30));
        tryAll("change", laws, around(1, 4), around(1, 10000));
        tryAll("measure", laws, days);
        tryAll("isTrue", laws, days);
        tryAll("rest", around(1, 30));
        tryAll("next");
        tryAll("hold", around(1, 4), around(1, 100));
        tryAll("release");
        tryAll("word", around(0, 4));
        tryAll("drill", around(0, 4));
        tryAll("message", new long[] {0}, numbersOf(4, 201), around(0, 2));
        tryAll("message", new long[] {1}, numbersOf(5, 201), around(0, 2));
        tryAll("told", around(0, 10));
    }

    private void tryTree() {
        long[] nodes = numbersOf(9, 24);
        tryAll("node", nodes, around(0, 100), around(0, 100));
        tryAll("node", nodes, new long[] {50, 51}, new long[] {50});
        tryAll("share", nodes, around(0, 100), around(0, 100));
        tryAll("share", nodes, new long[] {50, 51}, new long[] {50});
        tryAll("fear", nodes, new long[] {0, 1});
        tryAll("sound");
        tryAll("chance", nodes, around(0, 1));
        tryAll("ofNode", nodes, around(0, 5));
    }

    /** Calls the name with one number of each row, in every choice. */
    private void tryAll(String name, long[]... rows) {
        int choices = 1;
        for (long[] row : rows) {
            choices *= row.length;
        }
        for (int choice = 0; choice < choices; choice++) {
            long[] numbers = new long[rows.length];
            int left = choice;
            for (int i = 0; i < rows.length; i++) {
                numbers[i] = rows[i][left % rows[i].length];
                left /= rows[i].length;
            }
            tryOne(new Call(name, numbers));
        }
    }

    private void tryOne(Call call) {
        int want = call.on(model);
        check.due(scene.name + ": " + call, call.on(scene.watch()), want);
        boolean changesNothing = QUESTIONS.contains(call.name()) || want < 0;
        if (changesNothing) {
            lookForChanges(call);
        } else {
            model = scene.model();
        }
    }

    private void lookForChanges(Call call) {
        Call changed = scene.changedBy(List.of(call));
        check.holds(scene.name + ": " + call + " changes nothing, but not so " + changed, changed == null);
        idle.add(call);
    }

    /** Some at a time: an object is used for a bounded number of calls. */
    private void tryIdleTogether() {
        int atOnce = 40;
        for (int from = 0; from < idle.size(); from += atOnce) {
            Call changed = scene.changedBy(idle.subList(from, Math.min(idle.size(), from + atOnce)));
            check.holds(scene.name + ": calls from " + idle.get(from) + " on change nothing, but not so " + changed,
                    changed == null);
        }
    }

    /** told: TODAY, SHAKES, LAWS, both sorts of MESSAGES together, NODES; and whether THE TREE is SOUND. */
    private static void isAsMeant(Check check, Scene scene, int... want) {
        MountainWatch x = scene.watch();
        int[] got = {x.told(0), x.told(7), x.told(8), x.told(4) + x.told(5), x.told(9), x.sound()};
        for (int i = 0; i < want.length; i++) {
            check.due(scene.name + ": row " + i + " of what it holds", got[i], want[i]);
        }
    }

    public static void main(String[] args) {
        Check check = new Check();
        List<Scene> scenes = Scene.all();
        isAsMeant(check, scenes.get(0), 0, 0, 0, 0, 1, 1);
        isAsMeant(check, scenes.get(1), 4, 5, 4, 3, 6, 1);
        isAsMeant(check, scenes.get(2), 1, 4, 0, 0, 6, 0);
        isAsMeant(check, scenes.get(3), 5, 80, 8, 200, 24, 1);
        isAsMeant(check, scenes.get(4), 999, 4, 1, 2, 1, 1);
        for (Scene scene : scenes) {
            RefusalTest test = new RefusalTest(check, scene);
            test.trySeen();
            test.tryLevels();
            test.tryTree();
            test.tryIdleTogether();
        }
        check.end();
    }
}
