import java.lang.reflect.Constructor;
import java.lang.reflect.Field;
import java.lang.reflect.Method;
import java.lang.reflect.Modifier;
import java.util.Set;
import java.util.TreeSet;

/** The public face: what the document names, and nothing else that isn't private. */
public final class FaceTest {
    private static final Due DUE = new Due("FaceTest");
    private static final String[] FACE = {
        "boolean set(int,int,int)", "int parts(int,int)", "boolean right(int)", "int told(int,int,int)",
        "boolean layer(int,int,int,boolean,int)", "boolean part(int,int,boolean,int)", "boolean ruin(int,int,int,int)",
        "int at(int,int)", "int deep(int,int)", "boolean ever(int,int)", "int worth(int,int,int,int,int)",
        "boolean two(int,int,int,int,boolean)", "int digit(int)", "int decimals()", "int just(int,int,int,int)",
        "boolean lighter(int,int)"};

    public static void main(String[] args) {
        Class<?> c = RuinHouse.class;
        DUE.yes("public final", Modifier.isPublic(c.getModifiers()) && Modifier.isFinal(c.getModifiers()));
        DUE.same("NONE", RuinHouse.NONE, -1);
        Set<String> due = new TreeSet<>(Set.of(FACE));
        Set<String> got = new TreeSet<>();
        Set<String> names = new TreeSet<>();
        for (Method m : c.getDeclaredMethods()) {
            if (Modifier.isPrivate(m.getModifiers())) continue;
            got.add(told(m));
            names.add(m.getName());
            DUE.yes(m + " is public, not static", Modifier.isPublic(m.getModifiers()) && !Modifier.isStatic(m.getModifiers()));
        }
        DUE.same("the methods", got.toString(), due.toString());
        for (Field f : c.getDeclaredFields()) {
            boolean isNone = f.getName().equals("NONE");
            DUE.same(f + " is private, but for NONE", Modifier.isPrivate(f.getModifiers()) ? 1 : 0, isNone ? 0 : 1);
            DUE.yes(f + " is final if static", !Modifier.isStatic(f.getModifiers()) || Modifier.isFinal(f.getModifiers()));
        }
        Constructor<?>[] made = c.getDeclaredConstructors();
        DUE.same("one constructor", made.length, 1);
        DUE.same("without parameters", made[0].getParameterCount(), 0);
        for (Class<?> inner : c.getDeclaredClasses()) {
            DUE.yes(inner + " is static", Modifier.isStatic(inner.getModifiers()));
            for (Method m : inner.getDeclaredMethods()) {
                DUE.no(m + " bears a public name", names.contains(m.getName()));
                DUE.yes(m + " has at most seven parameters", m.getParameterCount() <= 7);
            }
            DUE.yes(inner + " has at most twenty fields", inner.getDeclaredFields().length <= 20);
        }
        DUE.end();
    }

    private static String told(Method m) {
        StringBuilder text = new StringBuilder(m.getReturnType().getName()).append(' ').append(m.getName()).append('(');
        for (int i = 0; i < m.getParameterCount(); i++) {
            text.append(i == 0 ? "" : ",").append(m.getParameterTypes()[i].getName());
        }
        return text.append(')').toString();
    }
}
