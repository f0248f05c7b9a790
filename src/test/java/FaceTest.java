import java.lang.reflect.Constructor;
import java.lang.reflect.Field;
import java.lang.reflect.Method;
import java.lang.reflect.Modifier;
import java.util.Set;
import java.util.TreeSet;

/** The public face: what the document names, and nothing else that isn't private (classes inside: RulesTest). */
public final class FaceTest {
    private static final Due DUE = new Due("FaceTest");
    private static final String[] FACE = {
        "boolean set(int,int,int)", "int parts(int,int)", "boolean right(int)", "int told(int,int,int)",
        "boolean layer(int,int,int,boolean,int)", "boolean part(int,int,boolean,int)", "boolean ruin(int,int,int,int)",
        "int at(int,int)", "int deep(int,int)", "boolean ever(int,int)", "int worth(int,int,int,int,int)",
        "boolean two(int,int,int,int,boolean)", "int digit(int)", "int decimals()", "int just(int,int,int,int)",
        "boolean lighter(int,int)"};

    public static void main(String[] args) {
        Class<?> c = RuinHouse.class;
        DUE.sentence("public final class RuinHouse");
        DUE.yes("public final", Modifier.isPublic(c.getModifiers()) && Modifier.isFinal(c.getModifiers()));
        DUE.same("extends nothing", c.getSuperclass().getName(), "java.lang.Object");
        DUE.same("implements nothing", c.getInterfaces().length, 0);
        DUE.sentence("NONE = -1: There is none.");
        DUE.same("NONE", RuinHouse.NONE, -1);
        Set<String> due = new TreeSet<>(Set.of(FACE));
        Set<String> got = new TreeSet<>();
        for (Method m : c.getDeclaredMethods()) {
            if (Modifier.isPrivate(m.getModifiers())) continue;
            got.add(told(m));
            DUE.yes(m + " is public, not static", Modifier.isPublic(m.getModifiers()) && !Modifier.isStatic(m.getModifiers()));
        }
        DUE.same("the methods", got.toString(), due.toString());
        for (Field f : c.getDeclaredFields()) {
            boolean isNone = f.getName().equals("NONE");
            if (isNone) DUE.same("NONE", f.toString(), "public static final int RuinHouse.NONE");
            DUE.same(f + " is private, but for NONE", Modifier.isPrivate(f.getModifiers()) ? 1 : 0, isNone ? 0 : 1);
            DUE.yes(f + " is final if static", !Modifier.isStatic(f.getModifiers()) || Modifier.isFinal(f.getModifiers()));
        }
        Constructor<?>[] made = c.getDeclaredConstructors();
        DUE.same("one constructor", made.length, 1);
        DUE.same("the constructor", made[0].toString(), "public RuinHouse()");
        DUE.end();
    }

    private static String told(Method m) {
        StringBuilder text = new StringBuilder(m.getReturnType().getName()).append(' ').append(m.getName()).append('(');
        for (int i = 0; i < m.getParameterCount(); i++) {
            text.append(i == 0 ? "" : ",").append(m.getParameterTypes()[i].getName());
        }
        return text.append(')').toString();
    }
}
