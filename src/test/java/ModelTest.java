import java.util.Random;

/** Long runs of calls, the same each time, answered by the class as by the model. */
public final class ModelTest {
    private static final int RUNS = 500;
    /** As many as the document promises answers for, the last ones being those of told. */
    private static final int CALLS = 512;
    private static final int TOLD = 11;
    private static final int[] ODD = {
        Integer.MIN_VALUE, Integer.MAX_VALUE, -1, -2, -10001, 10001, 1000, 999, 80, 24, 7, 8, 31, 101, 200, 201,
    };

    private final Check check;
    private final Random random;
    private final String run;
    private final MountainWatch watch = new MountainWatch();
    private final Model model = new Model();
    /** What a run is about: some kinds of calls come more often in it than others. */
    private final int theme;
    private int calls;

    private ModelTest(Check check, int seed) {
        this.check = check;
        this.random = new Random(seed);
        this.run = "run " + seed + ": ";
        this.theme = seed % 5;
    }

    private int from(int least, int most) {
        return random.nextInt(60) == 0 ? ODD[random.nextInt(ODD.length)] : least + random.nextInt(most - least + 1);
    }

    /** Numbers of things are mostly those that are there, or just beyond. */
    private int one(int what) {
        int there = model.told(what);
        return random.nextInt(3) == 0 ? from(there - 3, there) : from(0, there);
    }

    private int day() {
        return one(0);
    }

    private long bands() {
        if (random.nextInt(40) == 0) {
            long[] odd = {0, -1, 1061520150600L, 1061520150601L, Long.MIN_VALUE, Long.MAX_VALUE};
            return odd[random.nextInt(odd.length)];
        }
        int most = new int[] {1, 3, 10, 100}[random.nextInt(4)];
        int used = random.nextInt(63) + 1;
        long told = 0;
        for (int i = 0; i < 6; i++) {
            told = told * 101 + ((used >> i & 1) == 1 ? random.nextInt(most + 1) : 0);
        }
        return told;
    }

    private void due(String call, int got, int want) {
        calls++;
        check.due(run + call, got, want);
    }

    private void callOfSeen() {
        int a = one(7);
        int b = one(7);
        switch (random.nextInt(12)) {
            case 0: case 1: case 2: {
                long bands = bands();
                due("shake(" + bands + ")", watch.shake(bands), model.shake(bands));
                break;
            }
            case 3: {
                int what = random.nextBoolean() ? from(0, 3) : from(9, 16);
                due("about(" + a + ", " + what + ")", watch.about(a, what), model.about(a, what));
                break;
            }
            case 4:
                due("alike(" + a + ", " + b + ")", watch.alike(a, b), model.alike(a, b));
                break;
            case 5: {
                int n = from(0, 101);
                due("likeness(" + n + ")", watch.likeness(n), model.likeness(n));
                break;
            }
            case 6: {
                int i = from(-2, 8);
                due("family(" + i + ")", watch.family(i), model.family(i));
                break;
            }
            case 7:
                due("kin(" + a + ")", watch.kin(a), model.kin(a));
                break;
            case 8: {
                int v = random.nextBoolean() ? from(-10, 10) : from(-10001, 10001);
                due("tilt(" + v + ")", watch.tilt(v), model.tilt(v));
                break;
            }
            case 9: {
                int v = random.nextBoolean() ? from(-1, 10) : from(-1, 10001);
                due("gas(" + v + ")", watch.gas(v), model.gas(v));
                break;
            }
            case 10: {
                int d = day();
                due("tiltAt(" + d + ")", watch.tiltAt(d), model.tiltAt(d));
                break;
            }
            default: {
                int d = day();
                due("gasOf(" + d + ")", watch.gasOf(d), model.gasOf(d));
            }
        }
    }

    private void callOfLaws() {
        int law = one(8);
        int day = day();
        int level = from(0, 5);
        int number = random.nextInt(4) > 0 ? from(1, 12) : from(0, 10001);
        switch (random.nextInt(6)) {
            case 0: {
                int measure = from(0, 6);
                int span = random.nextBoolean() ? from(1, 5) : from(0, 31);
                due("law(" + level + ", " + measure + ", " + number + ", " + span + ")",
                        watch.law(level, measure, number, span), model.law(level, measure, number, span));
                break;
            }
            case 1:
                due("change(" + law + ", " + level + ", " + number + ")",
                        watch.change(law, level, number), model.change(law, level, number));
                break;
            case 2: case 3:
                due("measure(" + law + ", " + day + ")", watch.measure(law, day), model.measure(law, day));
                break;
            default:
                due("isTrue(" + law + ", " + day + ")", watch.isTrue(law, day), model.isTrue(law, day));
        }
    }

    private void callOfLevels() {
        int level = from(-1, 5);
        switch (random.nextInt(14)) {
            case 0: {
                int days = random.nextInt(3) > 0 ? from(1, 4) : from(0, 31);
                due("rest(" + days + ")", watch.rest(days), model.rest(days));
                break;
            }
            case 1: {
                int days = random.nextInt(3) > 0 ? from(1, 4) : from(0, 101);
                due("hold(" + level + ", " + days + ")", watch.hold(level, days), model.hold(level, days));
                break;
            }
            case 2:
                due("release()", watch.release(), model.release());
                break;
            case 3:
                due("word(" + level + ")", watch.word(level), model.word(level));
                break;
            case 4:
                due("drill(" + level + ")", watch.drill(level), model.drill(level));
                break;
            case 5: case 6: {
                boolean drills = random.nextBoolean();
                int number = one(drills ? 5 : 4);
                int what = from(-1, 3);
                due("message(" + drills + ", " + number + ", " + what + ")",
                        watch.message(drills, number, what), model.message(drills, number, what));
                break;
            }
            default:
                due("next()", watch.next(), model.next());
        }
    }

    private void callOfTree() {
        int node = one(9);
        int low = random.nextInt(3) > 0 ? from(0, 30) : from(-1, 101);
        int high = random.nextInt(3) > 0 ? from(20, 100) : from(-1, 101);
        boolean is = random.nextBoolean();
        switch (random.nextInt(10)) {
            case 0: case 1:
                due("node(" + node + ", " + low + ", " + high + ")",
                        watch.node(node, low, high), model.node(node, low, high));
                break;
            case 2: case 3:
                due("share(" + node + ", " + low + ", " + high + ")",
                        watch.share(node, low, high), model.share(node, low, high));
                break;
            case 4:
                due("fear(" + node + ", " + is + ")", watch.fear(node, is), model.fear(node, is));
                break;
            case 5:
                due("sound()", watch.sound(), model.sound());
                break;
            case 6: {
                int what = from(-1, 6);
                due("ofNode(" + node + ", " + what + ")", watch.ofNode(node, what), model.ofNode(node, what));
                break;
            }
            default: {
                int at = random.nextBoolean() ? 0 : node;
                int side = from(0, 1);
                due("chance(" + at + ", " + side + ")", watch.chance(at, side), model.chance(at, side));
            }
        }
    }

    /** A sound tree, as random shares seldom make one of more than a few nodes. */
    private void growSoundTree() {
        for (int turn = 0; turn < 12; turn++) {
            int parent = random.nextInt(model.told(9));
            int children = 1 + random.nextInt(4);
            for (int i = 0; i < children; i++) {
                int low = random.nextInt(100 / children + 1);
                int high = Math.min(100, 100 / children + 1 + random.nextInt(100));
                due("node", watch.node(parent, low, high), model.node(parent, low, high));
            }
        }
        for (int node = 0; node < model.told(9); node++) {
            boolean is = random.nextInt(3) == 0;
            due("fear", watch.fear(node, is), model.fear(node, is));
        }
    }

    private void call() {
        int kind = random.nextInt(10) < 6 ? theme : random.nextInt(5);
        switch (kind) {
            case 0:
                callOfSeen();
                break;
            case 1:
                callOfLaws();
                break;
            case 2:
                callOfLevels();
                break;
            case 3:
                callOfTree();
                break;
            default: {
                int what = from(-1, 11);
                due("told(" + what + ")", watch.told(what), model.told(what));
            }
        }
    }

    private void play() {
        if (theme == 3) {
            growSoundTree();
        }
        while (calls < CALLS - TOLD && check.isClean()) {
            call();
        }
        for (int what = 0; what < TOLD; what++) {
            due("told(" + what + ") at the end", watch.told(what), model.told(what));
        }
    }

    public static void main(String[] args) {
        Check check = new Check();
        for (int seed = 0; seed < RUNS && check.isClean(); seed++) {
            new ModelTest(check, seed).play();
        }
        check.end();
    }
}
