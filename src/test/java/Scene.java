import java.util.ArrayList;
import java.util.List;

/** A state that is come to by calls, and all that can be asked in it. */
final class Scene {
    private static final int MOST_CALLS = 512;

    final String name;
    private final List<Call> way = new ArrayList<>();
    private final List<Call> questions = new ArrayList<>();
    private final List<Call> future = new ArrayList<>();
    private int[] untouched;

    private Scene(String name) {
        this.name = name;
    }

    private void add(String call, long... numbers) {
        way.add(new Call(call, numbers));
    }

    private void days(int n) {
        for (int i = 0; i < n; i++) {
            add("next");
        }
    }

    private Scene done() {
        MountainWatch x = watch();
        askOfShakes(x.told(7));
        askOfDays(x.told(0), x.told(8));
        askOfMessages(x.told(4), x.told(5));
        askOfTree(x.told(9));
        for (int what = 0; what <= 10; what++) {
            ask("told", what);
        }
        goOn();
        untouched = answers(List.of());
        return this;
    }

    private void ask(String call, long... numbers) {
        questions.add(new Call(call, numbers));
    }

    private void askOfShakes(int shakes) {
        for (int shake = 0; shake <= shakes; shake++) {
            for (int what : new int[] {0, 1, 2, 10, 11, 12, 13, 14, 15}) {
                ask("about", shake, what);
            }
            ask("kin", shake);
            ask("alike", shake, 0);
            ask("alike", shake, shake - 1);
        }
        for (int i = -1; i <= shakes; i++) {
            ask("family", i);
        }
    }

    /** Of a long time, the last days alone: a law looks back at most 30. */
    private void askOfDays(int today, int laws) {
        for (int day = Math.max(0, today - 31); day <= today + 1; day++) {
            ask("tiltAt", day);
            ask("gasOf", day);
            for (int law = 0; law <= laws; law++) {
                ask("measure", law, day);
                ask("isTrue", law, day);
            }
        }
    }

    private void askOfMessages(int messages, int drills) {
        for (int what = 0; what <= 2; what++) {
            for (int number = 0; number <= messages + 1; number++) {
                ask("message", 0, number, what);
            }
            for (int number = 0; number <= drills + 1; number++) {
                ask("message", 1, number, what);
            }
        }
    }

    private void askOfTree(int nodes) {
        ask("sound");
        for (int node = 0; node <= nodes; node++) {
            for (int what = 0; what <= 5; what++) {
                ask("ofNode", node, what);
            }
            ask("chance", node, 0);
            ask("chance", node, 1);
        }
    }

    /** Calls that show what no question does: REST, LIKENESS, how long the HOLD holds, the next numbers, what is left. */
    private void goOn() {
        String[] steps = {"next", "rest 2", "next", "likeness 60", "next", "next", "release", "next", "next", "rest 3"};
        for (String step : steps) {
            String[] parts = step.split(" ");
            future.add(parts.length == 1 ? new Call(parts[0]) : new Call(parts[0], Long.parseLong(parts[1])));
            for (int what = 0; what <= 10; what++) {
                future.add(new Call("told", what));
            }
        }
        future.add(new Call("likeness", 90));
        future.add(new Call("family", -1));
        future.add(new Call("shake", 102));
        future.add(new Call("family", -1));
        future.add(new Call("law", 1, 3, 1, 1));
        future.add(new Call("word", 1));
        future.add(new Call("drill", 1));
        future.add(new Call("node", 0, 0, 100));
        future.add(new Call("fear", 0, 1));
        future.add(new Call("fear", 1, 1));
        future.add(new Call("sound"));
        future.add(new Call("chance", 0, 1));
        for (int what = 0; what <= 10; what++) {
            future.add(new Call("told", what));
        }
    }

    MountainWatch watch() {
        MountainWatch x = new MountainWatch();
        Call.all(way, x);
        return x;
    }

    Model model() {
        Model m = new Model();
        Call.all(way, m);
        return m;
    }

    /** The first question whose answer is another one after these calls than without them, or null. */
    Call changedBy(List<Call> more) {
        int[] now = answers(more);
        for (int i = 0; i < now.length; i++) {
            if (now[i] != untouched[i]) {
                return i < questions.size() ? questions.get(i) : future.get(i - questions.size());
            }
        }
        return null;
    }

    private int[] answers(List<Call> more) {
        int[] all = new int[questions.size() + future.size()];
        // no object is asked more than the document promises answers for, unless the way there is too long for that
        int atOnce = Math.max(100, MOST_CALLS - way.size() - more.size());
        for (int from = 0; from < questions.size(); from += atOnce) {
            MountainWatch x = watch();
            Call.all(more, x);
            for (int i = from; i < Math.min(questions.size(), from + atOnce); i++) {
                all[i] = questions.get(i).on(x);
            }
        }
        MountainWatch x = watch();
        Call.all(more, x);
        for (int i = 0; i < future.size(); i++) {
            all[questions.size() + i] = future.get(i).on(x);
        }
        return all;
    }

    static List<Scene> all() {
        return List.of(empty(), ordinary(), notSound(), full(), lastDay());
    }

    private static Scene empty() {
        return new Scene("a new object").done();
    }

    private static Scene ordinary() {
        Scene s = new Scene("an ordinary state");
        s.seeSomething();
        s.add("law", 2, 3, 2, 3);
        s.add("law", 3, 4, 3, 5);
        s.add("law", 1, 6, 50, 2);
        s.add("law", 4, 5, 100, 2);
        s.add("rest", 4);
        s.add("next");
        s.add("word", 3);
        s.add("drill", 2);
        s.days(2);
        s.add("tilt", -1);
        s.add("gas", 49);
        s.add("shake", 101);
        s.add("hold", 2, 3);
        s.growTree(40);
        return s.done();
    }

    private static Scene notSound() {
        Scene s = new Scene("a tree that is not sound");
        s.seeSomething();
        s.add("hold", 4, 1);
        s.growTree(61);
        return s.done();
    }

    private static Scene full() {
        Scene s = new Scene("a full watch");
        for (int i = 0; i < 80; i++) {
            s.add("shake", 1 + 777777777L * i % 1061520150600L);
            if (i % 16 == 15) {
                s.add("next");
            }
        }
        for (int i = 0; i < 8; i++) {
            s.add("law", 1 + i % 4, i % 7, 40, 1 + i);
        }
        for (int i = 0; i < 110; i++) {
            s.add("word", i % 5);
            if (i < 90) {
                s.add("drill", i % 5);
            }
        }
        for (int i = 0; i < 4; i++) {
            s.add("node", i, 10, 90);
        }
        for (int i = 5; i < 24; i++) {
            s.add("node", (i - 5) / 5, 1, 40);
        }
        s.add("fear", 4, 1);
        s.add("fear", 7, 1);
        return s.done();
    }

    private static Scene lastDay() {
        Scene s = new Scene("the last day");
        s.add("law", 4, 6, 5, 3);
        s.days(997);
        s.add("word", 2);
        s.seeSomething();
        s.add("next");
        s.add("gas", 5);
        s.add("hold", 3, 2);
        return s.done();
    }

    private void seeSomething() {
        add("shake", 53076472185L);
        add("shake", 53179502085L);
        add("tilt", 5);
        add("gas", 7);
        add("next");
        add("shake", 42566381884L);
        add("shake", 1);
        add("likeness", 80);
    }

    /** Sound, if the low of the third child leaves room for the lows 0 and 40 of its parent's others. */
    private void growTree(int thirdLow) {
        add("node", 0, 0, 50);
        add("node", 0, 40, 60);
        add("node", 0, thirdLow, 100);
        add("node", 2, 30, 100);
        add("node", 2, 10, 60);
        add("fear", 1, 1);
        add("fear", 4, 1);
    }
}
