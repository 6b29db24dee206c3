import java.lang.reflect.Constructor;
import java.lang.reflect.Field;
import java.lang.reflect.Method;
import java.lang.reflect.Modifier;
import java.util.Set;
import java.util.TreeSet;

/** The public face and promise 1: what a new object answers. */
public final class FaceTest {
    private static final Set<String> FACE = Set.of(
            "void shape(int,int,int,int) IllegalArgumentException",
            "void predict(int) IllegalArgumentException",
            "void coefficient(int) IllegalArgumentException IllegalStateException",
            "void push(int) IllegalArgumentException IllegalStateException",
            "int make() IllegalStateException",
            "int octet(int)",
            "int way(int,int,int) IllegalArgumentException",
            "boolean feed(long,int)",
            "int again()",
            "int read() IllegalArgumentException",
            "int fault()",
            "int place()",
            "int sample(int) IllegalArgumentException",
            "int count(int)");

    public static void main(String[] args) {
        face();
        newObject();
        Check.end();
    }

    private static void face() {
        Class<?> c = SoundPacker.class;
        Check.holds("the class is public and final", Modifier.isPublic(c.getModifiers()) && Modifier.isFinal(c.getModifiers()));
        Set<String> told = new TreeSet<>();
        Set<String> names = new TreeSet<>();
        for (Method m : c.getDeclaredMethods()) {
            if (!Modifier.isPrivate(m.getModifiers())) {
                told.add(told(m));
                names.add(m.getName());
            }
        }
        Check.holds("the face is the document's: " + told, told.equals(FACE));
        for (Method m : c.getDeclaredMethods()) {
            Check.holds(m.getName() + " is no private namesake", !Modifier.isPrivate(m.getModifiers()) || !names.contains(m.getName()));
        }
        for (Field f : c.getDeclaredFields()) {
            Check.holds("field " + f.getName() + " is private", Modifier.isPrivate(f.getModifiers()));
        }
        for (Constructor<?> k : c.getDeclaredConstructors()) {
            Check.holds("the one constructor is public and takes nothing", Modifier.isPublic(k.getModifiers()) && k.getParameterCount() == 0);
        }
    }

    private static String told(Method m) {
        StringBuilder s = new StringBuilder(m.getReturnType() + " " + m.getName() + "(");
        for (Class<?> p : m.getParameterTypes()) {
            s.append(s.charAt(s.length() - 1) == '(' ? "" : ",").append(p);
        }
        s.append(")");
        for (Class<?> e : m.getExceptionTypes()) {
            s.append(" ").append(e.getSimpleName());
        }
        return s.toString();
    }

    private static void newObject() {
        SoundPacker x = new SoundPacker();
        int[] counts = {0, 1, 16, 64, 44100, 0, 0, 0, 0};
        for (int what = 0; what < counts.length; what++) {
            Check.due("count(" + what + ")", x.count(what), counts[what]);
        }
        Check.due("octet(0)", x.octet(0), -1);
        Check.due("octet(-1)", x.octet(-1), -1);
        Check.due("fault()", x.fault(), 0);
        Check.due("place()", x.place(), -1);
        Check.due("again()", x.again(), 0);
        Check.badArgument("sample(0)", () -> x.sample(0));
        Check.badArgument("way(0, 0, 0)", () -> x.way(0, 0, 0));
        Check.badArgument("way(0, 0, 4)", () -> x.way(0, 0, 4));
        Check.badArgument("read()", x::read);
        Check.due("fault() of nothing", x.fault(), 1);
        Check.due("place() of nothing", x.place(), 0);
    }
}
