/** Each sentence on the tree (promises 24 to 29) that names a boundary case. */
public final class TreeEdgeTest extends TestBase {
    private static final int[][] NO_BOUNDS = {
        {-1, 100}, {LEAST, 100}, {0, 101}, {0, MOST}, {1, 0}, {51, 50}, {100, 99}, {100, 0}, {101, 101}, {-1, -1},
        {0, -1}, {0, LEAST}, {MOST, 100}, {101, 100}, {LEAST, LEAST}, {MOST, MOST}, {LEAST, MOST}, {MOST, LEAST},
        {-1, 101},
    };
    private static final int[][] BOUNDS = {{0, 0}, {0, 1}, {0, 100}, {1, 1}, {50, 50}, {99, 100}, {100, 100}};

    /** NODE 0 with children that have these bounds: LOW, HIGH, LOW, HIGH, .. */
    private static MountainWatch withChildren(int... bounds) {
        MountainWatch x = new MountainWatch();
        for (int i = 0; i < bounds.length; i += 2) {
            x.node(0, bounds[i], bounds[i + 1]);
        }
        return x;
    }

    /** NODES 1 to 4, each below the one ahead of it. */
    private static MountainWatch withFourBelowOneAnother() {
        MountainWatch x = new MountainWatch();
        for (int parent = 0; parent < 4; parent++) {
            x.node(parent, 0, 100);
        }
        return x;
    }

    /** 24 NODES: NODES 0, 1 and 2 have six children, NODE 3 has five. */
    private static MountainWatch withAllNodes() {
        MountainWatch x = new MountainWatch();
        for (int i = 0; i < 23; i++) {
            x.node(i / 6, 0, 100);
        }
        return x;
    }

    // ---- 24 node

    private static void nodeBounds() {
        for (int[] b : BOUNDS) {
            MountainWatch x = new MountainWatch();
            due("24: node(0, " + b[0] + ", " + b[1] + ")", x.node(0, b[0], b[1]), 1);
            due("29: LOW", x.ofNode(1, 1), b[0]);
            due("29: HIGH", x.ofNode(1, 2), b[1]);
        }
        for (int[] b : NO_BOUNDS) {
            due("24: node(0, " + b[0] + ", " + b[1] + ")", new MountainWatch().node(0, b[0], b[1]), OUTSIDE);
        }
        bounds("24: LOW, with HIGH 100", 0, 100, n -> new MountainWatch().node(0, n, 100), 1);
        bounds("24: LOW, not above HIGH", 0, 60, n -> new MountainWatch().node(0, n, 60), 1);
        bounds("24: HIGH, with LOW 0", 0, 100, n -> new MountainWatch().node(0, 0, n), 1);
        bounds("24: HIGH, not below LOW", 40, 100, n -> new MountainWatch().node(0, 40, n), 1);
    }

    private static void nodeUnknown() {
        beyond("24: no such parent", 0, 0, n -> new MountainWatch().node(n, 0, 100), UNKNOWN);
        beyond("24: no such parent", 0, 4, n -> withFourBelowOneAnother().node(n, 0, 100), UNKNOWN);
        beyond("24: no such parent", 0, 23, n -> withAllNodes().node(n, 0, 100), UNKNOWN);
        beyond("24: UNKNOWN ahead of OUTSIDE", 0, 0, n -> new MountainWatch().node(n, 1, 0), UNKNOWN);
        beyond("24: UNKNOWN ahead of OUTSIDE and FULL", 0, 23, n -> withAllNodes().node(n, 0, 101), UNKNOWN);
    }

    private static void nodesAre24AtMost() {
        MountainWatch x = new MountainWatch();
        for (int i = 1; i < 24; i++) {
            due("24: NODES are numbered from 0 on", x.node((i - 1) / 6, 0, 100), i);
        }
        due("24: the 25th, where there is room below", x.node(3, 0, 100), FULL);
        due("24: the 25th, below an END", x.node(23, 0, 100), FULL);
        due("24: FULL ahead of NO", x.node(0, 0, 100), FULL);
        for (int[] b : NO_BOUNDS) {
            due("24: OUTSIDE ahead of FULL", x.node(23, b[0], b[1]), OUTSIDE);
            due("24: OUTSIDE ahead of FULL and NO", x.node(0, b[0], b[1]), OUTSIDE);
        }
        due("24: NODES are 24 still", x.told(9), 24);
        due("24: children of NODE 3", x.ofNode(3, 4), 5);
        due("24: NODE 23 is an END", x.ofNode(23, 4), 0);
        due("24: there is a NODE 23", x.ofNode(23, 0), 3);
        due("24: and no NODE 24", x.ofNode(24, 0), UNKNOWN);
    }

    private static void fullAheadOfNoForTheFifthBelow() {
        MountainWatch x = withFourBelowOneAnother();
        for (int i = 5; i < 24; i++) {
            x.node((i - 5) / 5, 0, 100);
        }
        due("24: 24 NODES", x.told(9), 24);
        due("24: FULL ahead of NO, the fifth below", x.node(4, 0, 100), FULL);
        due("24: OUTSIDE ahead of both", x.node(4, 1, 0), OUTSIDE);
    }

    private static void fourBelowOneAnotherAtMost() {
        MountainWatch x = new MountainWatch();
        for (int depth = 1; depth <= 4; depth++) {
            due("24: the NODE that is " + depth + " below", x.node(depth - 1, 0, 100), depth);
            due("29: how far below", x.ofNode(depth, 5), depth);
        }
        due("24: the fifth below", x.node(4, 0, 100), NO);
        due("24: OUTSIDE ahead of NO", x.node(4, 0, 101), OUTSIDE);
        due("24: it is not there", x.told(9), 5);
        due("24: NODE 4 has no children", x.ofNode(4, 4), 0);
        due("24: another one of the fourth", x.node(3, 0, 100), 5);
        due("24: nor below that", x.node(5, 0, 100), NO);
        x.fear(4, true);
        x.fear(5, true);
        due("24: NODE 4 is an END still", x.chance(4, 0), SURE);
    }

    private static void sixOfOneParentAtMost() {
        for (int parent = 0; parent <= 3; parent++) {
            MountainWatch x = new MountainWatch();
            for (int above = 0; above < parent; above++) {
                x.node(above, 0, 100);
            }
            for (int i = 1; i <= 6; i++) {
                due("24: child " + i + " of NODE " + parent, x.node(parent, 0, 100), parent + i);
                due("29: children", x.ofNode(parent, 4), i);
            }
            due("24: the seventh of NODE " + parent, x.node(parent, 0, 100), NO);
            due("24: OUTSIDE ahead of NO", x.node(parent, 1, 0), OUTSIDE);
            due("24: children of NODE " + parent, x.ofNode(parent, 4), 6);
            due("24: NODES", x.told(9), parent + 7);
        }
    }

    private static void refusedNodeLeavesAnEnd() {
        MountainWatch x = new MountainWatch();
        x.fear(0, true);
        for (int[] b : NO_BOUNDS) {
            x.node(0, b[0], b[1]);
        }
        due("24: NODE 0 is an END still", x.chance(0, 0), SURE);
        due("24: without children", x.ofNode(0, 4), 0);
        due("24: THE TREE is SOUND", x.sound(), 1);
        due("24: the first that is taken is 1", x.node(0, 100, 100), 1);
        due("24: NODE 0 is no END any more", x.chance(0, 1), 0);
    }

    private static void fearedDoesNotCountWithChildren() {
        MountainWatch x = new MountainWatch();
        x.fear(0, true);
        x.node(0, 100, 100);
        x.fear(1, true);
        due("24: the END is FEARED", x.chance(0, 0), SURE);
        x.node(1, 100, 100);
        due("24: FEARED of NODES 0 and 1 does not count", x.chance(0, 1), 0);
        due("24: nor for NODE 1 itself", x.chance(1, 1), 0);
        due("24: a new NODE is not FEARED", x.ofNode(2, 3), 0);
        x.fear(2, true);
        due("24: the new END counts", x.chance(0, 0), SURE);
    }

    // ---- 25 share

    private static void shareBounds() {
        for (int[] b : BOUNDS) {
            MountainWatch x = withChildren(20, 80);
            due("25: share(1, " + b[0] + ", " + b[1] + ")", x.share(1, b[0], b[1]), 1);
            due("25: LOW anew", x.ofNode(1, 1), b[0]);
            due("25: HIGH anew", x.ofNode(1, 2), b[1]);
        }
        bounds("25: LOW, with HIGH 100", 0, 100, n -> withChildren(20, 80).share(1, n, 100), 1);
        bounds("25: LOW, not above HIGH", 0, 60, n -> withChildren(20, 80).share(1, n, 60), 1);
        bounds("25: HIGH, with LOW 0", 0, 100, n -> withChildren(20, 80).share(1, 0, n), 1);
        bounds("25: HIGH, not below LOW", 40, 100, n -> withChildren(20, 80).share(1, 40, n), 1);
    }

    private static void refusedShareChangesNothing() {
        MountainWatch x = withChildren(20, 80, 0, 0);
        for (int[] b : NO_BOUNDS) {
            due("25: share(1, " + b[0] + ", " + b[1] + ")", x.share(1, b[0], b[1]), OUTSIDE);
            due("25: LOW stays", x.ofNode(1, 1), 20);
            due("25: HIGH stays", x.ofNode(1, 2), 80);
        }
        due("25: not SOUND as ahead of them", x.sound(), 0);
    }

    private static void shareUnknown() {
        beyond("25: no such NODE", 0, 1, n -> withChildren(20, 80).share(n, 0, 100), UNKNOWN);
        beyond("25: UNKNOWN ahead of OUTSIDE", 0, 1, n -> withChildren(20, 80).share(n, 1, 0), UNKNOWN);
        due("25: NODE 0", withChildren(20, 80).share(0, 0, 100), UNKNOWN);
        due("25: NODE 0 alone", new MountainWatch().share(0, 0, 100), UNKNOWN);
        due("25: NODE 0 with what it has", new MountainWatch().share(0, 100, 100), UNKNOWN);
        due("25: NODE 0, UNKNOWN ahead of OUTSIDE", withChildren(20, 80).share(0, 0, 101), UNKNOWN);
        MountainWatch x = withAllNodes();
        due("25: the last NODE", x.share(23, 3, 4), 1);
        due("25: no NODE 24", x.share(24, 3, 4), UNKNOWN);
        x.share(0, 1, 2);
        due("25: NODE 0 stays, LOW", x.ofNode(0, 1), 100);
        due("25: NODE 0 stays, HIGH", x.ofNode(0, 2), 100);
    }

    // ---- 26 fear

    private static void fearWasAndIs() {
        boolean[] set = {false, true, true, false, false, true, false};
        int[] was = {0, 0, 1, 1, 0, 0, 1};
        MountainWatch x = withAllNodes();
        for (int i = 0; i < set.length; i++) {
            due("26: fear(23, " + set[i] + ") whether it was", x.fear(23, set[i]), was[i]);
            due("26: it is", x.ofNode(23, 3), set[i] ? 1 : 0);
        }
    }

    private static void fearUnknown() {
        beyond("26: no such NODE", 0, 0, n -> new MountainWatch().fear(n, true), UNKNOWN);
        beyond("26: no such NODE", 0, 0, n -> new MountainWatch().fear(n, false), UNKNOWN);
        beyond("26: no such NODE", 0, 23, n -> withAllNodes().fear(n, true), UNKNOWN);
        MountainWatch x = new MountainWatch();
        x.fear(1, true);
        x.node(0, 100, 100);
        due("26: a NODE that comes later is not FEARED by it", x.ofNode(1, 3), 0);
        due("26: nor is NODE 0", x.ofNode(0, 3), 0);
    }

    // ---- 27 sound

    private static void soundIs(int want, int... bounds) {
        String name = "27: bounds " + java.util.Arrays.toString(bounds);
        due(name, withChildren(bounds).sound(), want);
        due(name + ", CHANCE", withChildren(bounds).chance(0, 0), want == 1 ? 0 : NO);
        // the same two below NODE 0, under a sound one
        MountainWatch x = withChildren(0, 100, 0, 100);
        for (int i = 0; i < bounds.length; i += 2) {
            x.node(2, bounds[i], bounds[i + 1]);
        }
        due(name + ", further down", x.sound(), want);
    }

    private static void soundAtTheEdge() {
        soundIs(1);
        soundIs(1, 0, 100);
        soundIs(1, 100, 100);
        soundIs(0, 0, 99);
        soundIs(0, 99, 99);
        soundIs(0, 0, 0);
        soundIs(1, 0, 50, 0, 50);
        soundIs(0, 0, 50, 0, 49);
        soundIs(1, 50, 100, 50, 100);
        soundIs(0, 50, 100, 51, 100);
        soundIs(1, 40, 40, 60, 60);
        soundIs(0, 40, 40, 59, 59);
        soundIs(0, 40, 40, 61, 61);
        soundIs(1, 100, 100, 0, 0);
        soundIs(0, 100, 100, 1, 1);
        soundIs(1, 100, 100, 0, 100, 0, 100, 0, 100, 0, 100, 0, 100);
        soundIs(0, 100, 100, 0, 100, 0, 100, 0, 100, 0, 100, 1, 100);
        soundIs(1, 0, 20, 0, 20, 0, 20, 0, 20, 0, 20, 0, 0);
        soundIs(0, 0, 20, 0, 20, 0, 20, 0, 20, 0, 19, 0, 0);
        soundIs(1, 16, 17, 16, 17, 16, 17, 16, 17, 16, 17, 16, 17);
        soundIs(0, 16, 16, 16, 16, 16, 16, 16, 16, 16, 16, 16, 16);
        soundIs(0, 100, 100, 100, 100, 100, 100, 100, 100, 100, 100, 100, 100);
    }

    private static void eachNodeWithChildrenIsSound() {
        for (int bad = 1; bad <= 4; bad++) {
            MountainWatch x = withFourBelowOneAnother();
            due("27: all can be", x.sound(), 1);
            x.share(bad, 0, 99);
            due("27: the child of NODE " + (bad - 1) + " can not", x.sound(), 0);
            x.share(bad, 0, 100);
            due("27: it can again", x.sound(), 1);
        }
        MountainWatch y = withAllNodes();
        due("27: 24 NODES", y.sound(), 1);
        y.share(23, 100, 100);
        due("27: the last with all", y.sound(), 1);
        y.share(22, 1, 100);
        due("27: one more is too much", y.sound(), 0);
    }

    // ---- 28 chance

    private static void chanceSides() {
        for (boolean is : new boolean[] {false, true}) {
            MountainWatch x = new MountainWatch();
            x.fear(0, is);
            due("28: of an END, the least", x.chance(0, 0), is ? SURE : 0);
            due("28: of an END, the greatest", x.chance(0, 1), is ? SURE : 0);
        }
        beyond("28: sides 0 and 1", 0, 1, n -> withChildren(0, 100).chance(0, n), OUTSIDE);
        beyond("28: OUTSIDE ahead of NO", 0, 1, n -> withChildren(0, 99).chance(0, n), OUTSIDE);
    }

    private static void chanceUnknown() {
        for (int side : new int[] {0, 1, 2, -1, LEAST, MOST}) {
            beyond("28: no such NODE", 0, 1, n -> withChildren(0, 100).chance(n, side), UNKNOWN);
            beyond("28: UNKNOWN ahead of NO", 0, 1, n -> withChildren(0, 99).chance(n, side), UNKNOWN);
        }
    }

    private static void noChanceInATreeThatIsNotSound() {
        MountainWatch x = withChildren(0, 100, 0, 100);
        x.node(1, 0, 99);
        for (int node = 0; node <= 3; node++) {
            due("28: of NODE " + node + ", the least", x.chance(node, 0), NO);
            due("28: of NODE " + node + ", the greatest", x.chance(node, 1), NO);
        }
        x.share(3, 0, 100);
        x.fear(3, true);
        due("28: mended, the least", x.chance(0, 0), 0);
        due("28: mended, the greatest", x.chance(0, 1), SURE);
    }

    private static void chanceIs(String name, MountainWatch x, int node, int least, int greatest) {
        due("28: " + name + ", the least", x.chance(node, 0), least);
        due("28: " + name + ", the greatest", x.chance(node, 1), greatest);
    }

    /** The children with these numbers are feared. */
    private static MountainWatch feared(MountainWatch x, int... nodes) {
        for (int node : nodes) {
            x.fear(node, true);
        }
        return x;
    }

    private static void chanceOfChildren() {
        chanceIs("an only child", feared(withChildren(0, 100), 1), 0, SURE, SURE);
        chanceIs("no child FEARED", withChildren(0, 100, 0, 100), 0, 0, 0);
        chanceIs("all children FEARED", feared(withChildren(10, 90, 20, 80), 1, 2), 0, SURE, SURE);
        chanceIs("free shares", feared(withChildren(0, 100, 0, 100), 1), 0, 0, SURE);
        chanceIs("just one way", feared(withChildren(1, 1, 99, 99), 1), 0, 1000000, 1000000);
        chanceIs("its own bounds", feared(withChildren(20, 70, 0, 100), 1), 0, 20000000, 70000000);
        chanceIs("the other's bounds", feared(withChildren(0, 100, 20, 70), 1), 0, 30000000, 80000000);
        chanceIs("both bounds", feared(withChildren(40, 90, 20, 50), 1), 0, 50000000, 80000000);
        chanceIs("LOWS are 100", feared(withChildren(30, 100, 70, 100), 1), 0, 30000000, 30000000);
        chanceIs("HIGHS are 100", feared(withChildren(0, 30, 0, 70), 1), 0, 30000000, 30000000);
        chanceIs("one hundredth beyond LOWS", feared(withChildren(0, 100, 99, 99), 1), 0, 1000000, 1000000);
        chanceIs("one hundredth below HIGHS", feared(withChildren(0, 2, 0, 99), 1), 0, 1000000, 2000000);
        chanceIs("six children", feared(withChildren(5, 30, 5, 30, 5, 30, 5, 30, 5, 30, 5, 30), 2, 6), 0,
                10000000, 60000000);
        chanceIs("six children, four of them", feared(withChildren(5, 30, 5, 30, 5, 30, 5, 30, 5, 30, 5, 30), 1, 3, 4, 5),
                0, 40000000, 90000000);
    }

    /** Which child is served first, and how far, is seen in the sum. */
    private static void chanceOfChildrenThatHaveChances() {
        MountainWatch x = withChildren(10, 40, 20, 50, 15, 60);
        for (int node = 1; node <= 3; node++) {
            x.node(node, 10 * node, 20 * node);
            x.node(node, 0, 100);
            x.fear(2 + 2 * node, true);
        }
        chanceIs("NODE 1", x, 1, 10000000, 20000000);
        chanceIs("NODE 2", x, 2, 20000000, 40000000);
        chanceIs("NODE 3", x, 3, 30000000, 60000000);
        // least: 40 of NODE 1, 45 of NODE 2, 15 of NODE 3; greatest: 10, 30 and 60
        chanceIs("NODE 0", x, 0, 17500000, 50000000);
    }

    private static MountainWatch withPairsBelowOneAnother(int low, int high) {
        MountainWatch x = new MountainWatch();
        for (int parent = 0; parent <= 6; parent += 2) {
            x.node(parent, 100 - high, 100 - low);
            x.node(parent, low, high);
        }
        x.fear(8, true);
        return x;
    }

    private static void chanceFourBelow() {
        chanceIs("1 to 99 hundredths", withPairsBelowOneAnother(1, 99), 0, 1, 96059601);
        chanceIs("0 to 100 hundredths", withPairsBelowOneAnother(0, 100), 0, 0, SURE);
        chanceIs("33 to 67 hundredths", withPairsBelowOneAnother(33, 67), 0, 33 * 33 * 33 * 33, 67 * 67 * 67 * 67);
        chanceIs("three below", withPairsBelowOneAnother(1, 99), 2, 100, 97029900);
        chanceIs("two below", withPairsBelowOneAnother(1, 99), 4, 10000, 98010000);
        chanceIs("one below", withPairsBelowOneAnother(1, 99), 6, 1000000, 99000000);
        chanceIs("the END", withPairsBelowOneAnother(1, 99), 8, SURE, SURE);
        MountainWatch x = withPairsBelowOneAnother(1, 99);
        x.fear(8, false);
        for (int node : new int[] {1, 3, 5, 7}) {
            x.fear(node, true);
        }
        chanceIs("all but that END", x, 0, SURE - 96059601, SURE - 1);
    }

    private static void chanceOf24Nodes() {
        MountainWatch x = feared(withAllNodes(), 23);
        chanceIs("24 NODES", x, 0, 0, SURE);
        chanceIs("the last parent", x, 3, 0, SURE);
        chanceIs("the last NODE", x, 23, SURE, SURE);
        x.share(23, 1, 99);
        x.share(3, 1, 99);
        chanceIs("24 NODES, with bounds", x, 0, 10000, 98010000);
    }

    // ---- 29 ofNode

    private static void ofNodeWhat() {
        beyond("29: what 0 to 5", 0, 5, n -> new MountainWatch().ofNode(0, n), OUTSIDE);
        beyond("29: what 0 to 5", 0, 5, n -> withAllNodes().ofNode(23, n), OUTSIDE);
        for (int what : new int[] {0, 5, 6, -1, LEAST, MOST}) {
            beyond("29: no such NODE", 0, 0, n -> new MountainWatch().ofNode(n, what), UNKNOWN);
            beyond("29: no such NODE", 0, 23, n -> withAllNodes().ofNode(n, what), UNKNOWN);
        }
    }

    private static void ofNodeIs(MountainWatch x, int node, int... want) {
        for (int what = 0; what <= 5; what++) {
            due("29: ofNode(" + node + ", " + what + ")", x.ofNode(node, what), want[what]);
        }
    }

    private static void ofTheFirstAndTheLastNode() {
        ofNodeIs(new MountainWatch(), 0, NONE, 100, 100, 0, 0, 0);
        MountainWatch x = withAllNodes();
        x.share(23, 7, 8);
        x.fear(23, true);
        ofNodeIs(x, 0, NONE, 100, 100, 0, 6, 0);
        ofNodeIs(x, 1, 0, 0, 100, 0, 6, 1);
        ofNodeIs(x, 3, 0, 0, 100, 0, 5, 1);
        ofNodeIs(x, 23, 3, 7, 8, 1, 0, 2);
        ofNodeIs(withFourBelowOneAnother(), 4, 3, 0, 100, 0, 0, 4);
    }

    public static void main(String[] args) {
        nodeBounds();
        nodeUnknown();
        nodesAre24AtMost();
        fullAheadOfNoForTheFifthBelow();
        fourBelowOneAnotherAtMost();
        sixOfOneParentAtMost();
        refusedNodeLeavesAnEnd();
        fearedDoesNotCountWithChildren();
        shareBounds();
        refusedShareChangesNothing();
        shareUnknown();
        fearWasAndIs();
        fearUnknown();
        soundAtTheEdge();
        eachNodeWithChildrenIsSound();
        chanceSides();
        chanceUnknown();
        noChanceInATreeThatIsNotSound();
        chanceOfChildren();
        chanceOfChildrenThatHaveChances();
        chanceFourBelow();
        chanceOf24Nodes();
        ofNodeWhat();
        ofTheFirstAndTheLastNode();
        CHECK.end();
    }
}
