import java.lang.reflect.Constructor;
import java.lang.reflect.Field;
import java.lang.reflect.Method;
import java.lang.reflect.Modifier;
import java.util.Arrays;
import java.util.Set;
import java.util.TreeSet;

/** The class shows the document's face and nothing else. */
public final class FaceTest {
    private static final String[] METHODS = {
        "int shake(long)", "int about(int,int)", "int alike(int,int)", "int likeness(int)", "int family(int)",
        "int kin(int)", "int tilt(int)", "int gas(int)", "int tiltAt(int)", "int gasOf(int)",
        "int law(int,int,int,int)", "int change(int,int,int)", "int measure(int,int)", "int isTrue(int,int)",
        "int rest(int)", "int next()", "int hold(int,int)", "int release()", "int word(int)", "int drill(int)",
        "int message(boolean,int,int)", "int told(int)", "int node(int,int,int)", "int share(int,int,int)",
        "int fear(int,boolean)", "int sound()", "int chance(int,int)", "int ofNode(int,int)",
    };
    private static final String[] CONSTANTS = {"NONE", "UNKNOWN", "OUTSIDE", "STATE", "FULL", "NO"};

    private static String shape(Method m) {
        StringBuilder text = new StringBuilder(m.getReturnType().getName()).append(' ').append(m.getName()).append('(');
        for (Class<?> type : m.getParameterTypes()) {
            text.append(text.charAt(text.length() - 1) == '(' ? "" : ",").append(type.getName());
        }
        return text.append(')').toString();
    }

    public static void main(String[] args) {
        Check check = new Check();
        Class<?> face = MountainWatch.class;
        check.holds("the class is public and final",
                Modifier.isPublic(face.getModifiers()) && Modifier.isFinal(face.getModifiers()));

        Set<String> seen = new TreeSet<>();
        Set<String> publicNames = new TreeSet<>();
        for (Method m : face.getDeclaredMethods()) {
            if (!Modifier.isPrivate(m.getModifiers())) {
                check.holds(m + " is public, of the object", Modifier.isPublic(m.getModifiers())
                        && !Modifier.isStatic(m.getModifiers()));
                seen.add(shape(m));
                publicNames.add(m.getName());
            }
        }
        check.holds("the methods are those of the document: " + seen, seen.equals(new TreeSet<>(Arrays.asList(METHODS))));

        Set<String> constants = new TreeSet<>();
        for (Field f : face.getDeclaredFields()) {
            int is = f.getModifiers();
            check.holds(f + " is no static state", !Modifier.isStatic(is) || Modifier.isFinal(is));
            if (!Modifier.isPrivate(is)) {
                check.holds(f + " is a public constant", Modifier.isPublic(is) && Modifier.isStatic(is)
                        && Modifier.isFinal(is) && f.getType() == int.class);
                constants.add(f.getName());
            }
        }
        check.holds("the constants are those of the document: " + constants,
                constants.equals(new TreeSet<>(Arrays.asList(CONSTANTS))));

        Constructor<?>[] makers = face.getDeclaredConstructors();
        check.holds("one public constructor without parameters", makers.length == 1
                && Modifier.isPublic(makers[0].getModifiers()) && makers[0].getParameterCount() == 0);

        for (Class<?> inside : face.getDeclaredClasses()) {
            check.holds(inside + " is static and not public",
                    Modifier.isStatic(inside.getModifiers()) && !Modifier.isPublic(inside.getModifiers()));
            for (Method m : inside.getDeclaredMethods()) {
                check.holds(m + " has a name that is not of the face", !publicNames.contains(m.getName()));
            }
        }
        for (Method m : face.getDeclaredMethods()) {
            check.holds(m + " has a name of its own",
                    !Modifier.isPrivate(m.getModifiers()) || !publicNames.contains(m.getName()));
        }
        check.end();
    }
}
