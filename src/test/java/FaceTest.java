import java.lang.reflect.Constructor;
import java.lang.reflect.Field;
import java.lang.reflect.Method;
import java.lang.reflect.Modifier;
import java.util.Set;
import java.util.TreeSet;

/** The class has the document's public face, and nothing else can be seen of it. */
public final class FaceTest {
    private static final String[] FACE = {
        "int feed(int,int,int,int,int)", "int end(int)", "int text(int,int)", "int fault(int)", "int list(int,int)",
        "int rule(int,int,int)", "int reading(int,int,int)", "int row(int,int)", "long trees(int,int,int,int,int)",
        "int means(int,int,int)", "long ways(int,int,int)", "int tree(int,int,long,int)", "int could(int,int,int,int)",
        "long worn(int,int,int)", "int lasts(int,int)", "int brief(int,int,int,int)", "int apart(int,int,int)",
        "int hole(int,int,int)", "int idle(int,int)", "int doubt(int,int,int)", "int meal(int,int)", "int deed(int,int,int)",
        "int looks(int,int,int)", "int caught(int,int,int,int)", "int knows(int,int,int,int,int)", "int sure(int,int,int)",
        "int passed(int,int,int)", "boolean reaches(int,int,int,int,int)", "int watch(int,int,boolean)", "int law(int,int,int)",
        "int breaks(int,int,int)", "int sins(int,int,int)", "int mildest(int,int)", "int drawn(int,int,int,int,int)",
        "long all(int,int,int)", "int becomes(int,int,int)", "int can(int,int,int,int)", "int asks(int,int,int,int,int,int)",
        "int hears(int,int)", "int like(int,int,int)", "int count(int)", "boolean image(int)", "boolean again(int)"};

    public static void main(String[] args) {
        Due due = new Due();
        Set<String> want = new TreeSet<>(Set.of(FACE));
        Set<String> names = new TreeSet<>();
        Set<String> got = new TreeSet<>();
        for (Method m : SilentTable.class.getDeclaredMethods()) {
            if (Modifier.isPublic(m.getModifiers())) {
                got.add(written(m));
                names.add(m.getName());
                due.is(m + " is not static", Modifier.isStatic(m.getModifiers()), false);
            } else {
                due.is(m + " is private", Modifier.isPrivate(m.getModifiers()), true);
            }
        }
        due.is("face " + got + " is " + want, got.equals(want), true);
        for (Method m : SilentTable.class.getDeclaredMethods()) {
            if (Modifier.isPrivate(m.getModifiers())) {
                due.is(m + " bears a public name", names.contains(m.getName()), false);
            }
        }
        for (Field f : SilentTable.class.getDeclaredFields()) {
            due.is(f + " is private", Modifier.isPrivate(f.getModifiers()), !f.getName().equals("NONE"));
        }
        Constructor<?>[] makers = SilentTable.class.getDeclaredConstructors();
        due.is("constructors", makers.length, 1);
        due.is("public constructor", Modifier.isPublic(makers[0].getModifiers()), true);
        due.is("its parameters", makers[0].getParameterCount(), 0);
        due.is("final", Modifier.isFinal(SilentTable.class.getModifiers()), true);
        for (Class<?> c : SilentTable.class.getDeclaredClasses()) {
            due.is(c + " is static", Modifier.isStatic(c.getModifiers()), true);
            for (Method m : c.getDeclaredMethods()) {
                due.is(m + " bears a public name", names.contains(m.getName()), false);
                due.is(m + " parameters", m.getParameterCount() <= 7, true);
            }
        }
        due.close("FaceTest");
    }

    private static String written(Method m) {
        StringBuilder text = new StringBuilder(m.getReturnType().getName() + " " + m.getName() + "(");
        for (Class<?> type : m.getParameterTypes()) {
            text.append(text.charAt(text.length() - 1) == '(' ? "" : ",").append(type.getName());
        }
        return text + ")";
    }
}
