import java.lang.reflect.Method;
import java.util.ArrayList;
import java.util.List;
import java.util.Random;

/**
 * Calls with any numbers at all on a full watch, far more than the 512 whose answers are promised: what they answer is
 * free then, but none throws (rule 7 of LANGUAGE.md).
 */
public final class LongUseTest {
    private static final int OBJECTS = 20;
    private static final int CALLS = 5000;

    private final Check check;
    private final Random random;
    private final MountainWatch watch = new MountainWatch();
    private final List<Method> methods = new ArrayList<>();

    private LongUseTest(Check check, int seed) {
        this.check = check;
        this.random = new Random(seed);
        for (Method m : MountainWatch.class.getMethods()) {
            if (m.getDeclaringClass() == MountainWatch.class) {
                methods.add(m);
            }
        }
        // the machine lists methods in no fixed order
        methods.sort((a, b) -> a.getName().compareTo(b.getName()));
    }

    private void fill() {
        for (int i = 0; i < 80; i++) {
            watch.shake(1 + (random.nextLong() >>> 24) % 1061520150600L);
        }
        for (int i = 0; i < 8; i++) {
            watch.law(1 + i % 4, i % 7, 1 + random.nextInt(20), 1 + random.nextInt(30));
        }
        for (int i = 1; i < 24; i++) {
            watch.node((i - 1) / 3, 0, 100);
        }
        for (int i = 0; i < 202; i++) {
            new Call(random.nextBoolean() ? "word" : "drill", i % 5).on(watch);
        }
        int[] full = {80, 8, 24};
        for (int i = 0; i < full.length; i++) {
            check.due("told(" + (7 + i) + ") of a full watch", watch.told(7 + i), full[i]);
        }
        check.due("both sorts of messages", watch.told(4) + watch.told(5), 202);
    }

    private long number() {
        switch (random.nextInt(6)) {
            case 0:
                return random.nextLong();
            case 1:
                return random.nextInt(1100);
            case 2:
                return random.nextInt(100);
            default:
                return random.nextInt(26) - 1;
        }
    }

    private Call call() {
        if (random.nextInt(3) == 0) {
            return new Call("next");
        }
        Method m = methods.get(random.nextInt(methods.size()));
        long[] numbers = new long[m.getParameterCount()];
        for (int i = 0; i < numbers.length; i++) {
            numbers[i] = number();
        }
        return new Call(m.getName(), numbers);
    }

    private void play() {
        for (int i = 0; i < CALLS; i++) {
            Call call = call();
            check.holds(call + ", call " + i + " of a full watch, throws nothing", answers(call));
        }
    }

    private boolean answers(Call call) {
        try {
            call.on(watch);
            return true;
        } catch (IllegalStateException thrown) {
            return false;
        }
    }

    public static void main(String[] args) {
        Check check = new Check();
        for (int seed = 0; seed < OBJECTS && check.isClean(); seed++) {
            LongUseTest test = new LongUseTest(check, seed);
            test.fill();
            test.play();
        }
        check.end();
    }
}
