import java.lang.reflect.Constructor;
import java.lang.reflect.Field;
import java.lang.reflect.Method;
import java.lang.reflect.Modifier;
import java.util.Arrays;
import java.util.Set;
import java.util.TreeSet;

/** The public face: the document's constants, constructor and methods, and nothing else. */
public final class FaceTest {
    private static final String[] METHODS = {
        "int set(int,int,int)", "int come(int,int)", "int comes(int,int,int,int)", "int type(long,int)",
        "int rule(int)", "int told(int,int)", "long rank(int,int)", "int full(int,int)", "int ticks(int)",
        "int next()", "int count(int)", "int sent(int)", "int late(int)", "int behind(int,int)",
        "int promise(int,int)", "int taken(int)", "int lags(int)", "int heaps(int,int,int,int,int)",
        "int cut(int,int,int,int,int)", "int found(int,int,int,int)", "int order(int,int,int,int,int)",
        "int sheet(int,int,int)", "int drop(int)", "int item(int,int,int,int)", "int copy(int,int,int,int,int)"};

    public static void main(String[] args) {
        constants();
        members();
        inside();
        Due.end("FaceTest");
    }

    private static void constants() {
        Due.is("BAD", TurnPort.BAD, -1);
        Due.is("NOT", TurnPort.NOT, -2);
        Due.is("FULL", TurnPort.FULL, -3);
        Due.is("NONE", TurnPort.NONE, -4);
        Due.is("NULL", TurnPort.NULL, -11);
        Due.is("CAST", TurnPort.CAST, -12);
        Due.is("INDEX", TurnPort.INDEX, -13);
        Due.is("SIZE", TurnPort.SIZE, -14);
    }

    private static void members() {
        Set<String> want = new TreeSet<>(Arrays.asList(METHODS));
        Set<String> got = new TreeSet<>();
        Set<String> publicNames = new TreeSet<>();
        for (Method m : TurnPort.class.getDeclaredMethods()) {
            if (!Modifier.isPrivate(m.getModifiers()) && !m.isSynthetic()) {
                Due.holds(m + " is public", Modifier.isPublic(m.getModifiers()));
                got.add(text(m));
                publicNames.add(m.getName());
            }
        }
        Due.holds("methods are " + want + " but were " + got, want.equals(got));
        for (Method m : TurnPort.class.getDeclaredMethods()) {
            Due.holds("private " + m.getName() + " bears no public name",
                !Modifier.isPrivate(m.getModifiers()) || !publicNames.contains(m.getName()));
        }
        int constants = 0;
        for (Field f : TurnPort.class.getDeclaredFields()) {
            if (!Modifier.isPrivate(f.getModifiers())) {
                constants++;
                Due.holds(f + " is a constant", f.toString().startsWith("public static final int "));
            }
            Due.holds(f + " is final if static",
                !Modifier.isStatic(f.getModifiers()) || Modifier.isFinal(f.getModifiers()));
        }
        Due.is("how many constants", constants, 8);
        Constructor<?>[] made = TurnPort.class.getDeclaredConstructors();
        Due.is("how many constructors", made.length, 1);
        Due.holds("the constructor", made[0].toString().equals("public TurnPort()"));
        Due.holds("the class is final", Modifier.isFinal(TurnPort.class.getModifiers()));
        Due.holds("the class has no package", TurnPort.class.getPackageName().isEmpty());
    }

    private static void inside() {
        Class<?>[] inner = TurnPort.class.getDeclaredClasses();
        Due.holds("at most twelve classes", inner.length + 1 <= 12);
        for (Class<?> c : inner) {
            int is = c.getModifiers();
            Due.holds(c + " is static", Modifier.isStatic(is));
            Due.holds(c + " is not seen from outside", !Modifier.isPublic(is) && !Modifier.isProtected(is));
            int fields = 0;
            for (Field f : c.getDeclaredFields()) {
                fields += Modifier.isStatic(f.getModifiers()) ? 0 : 1;
            }
            Due.holds(c + " has at most twenty fields", fields <= 20);
        }
    }

    private static String text(Method m) {
        StringBuilder s = new StringBuilder();
        s.append(m.getReturnType().getName()).append(' ').append(m.getName()).append('(');
        for (int i = 0; i < m.getParameterCount(); i++) {
            s.append(i == 0 ? "" : ",").append(m.getParameterTypes()[i].getName());
        }
        return s.append(')').toString();
    }
}
