import java.lang.reflect.Constructor;
import java.lang.reflect.Field;
import java.lang.reflect.Method;
import java.lang.reflect.Modifier;
import java.util.Arrays;
import java.util.Set;
import java.util.TreeSet;
import java.util.stream.Collectors;

/** The public face is the document's, and no member beside it can be seen from outside. */
public final class FaceTest {
    private static final Check CHECK = new Check();
    private static final String[] FACE = {
        "int sign(int)", "boolean end(int)", "int thoughts()", "int brothers()", "int winds()", "int rule()", "int brother(int,int)!",
        "int price(int)!", "int sheet(int,int,int,int)", "int hours(int)", "int tells(int,int)", "int moves(int,int)", "int eases(int)",
        "int preaches(int,int)", "int sails(int)", "int watch()", "int undo()", "int moment()", "int later(int)", "int over()", "int when(int)",
        "int rolls(int)", "int steady(int,int)", "int makes(int)", "int steps(int)", "int best(int)", "int trims(int)", "int frees()",
        "int bears()", "int parties()", "int just(int)", "int swaps()", "int line()", "int apart()", "int saw(int,int,int)", "int denies()",
        "int minds(int)", "int looks(int)", "int heard(int,int)", "int forget()", "int fits()", "int asks()", "int grave(int,int)",
        "int cake(int,int)", "int rests(int)", "int law()", "int years(int,int)", "boolean keep(int)", "boolean again(int)", "int count(int)",
        "long row(int)!"};

    public static void main(String[] args) {
        Class<?> c = ElderBallast.class;
        CHECK.due("public and final", Modifier.isPublic(c.getModifiers()) && Modifier.isFinal(c.getModifiers()), true);
        Set<String> due = new TreeSet<>(Arrays.asList(FACE));
        Set<String> got = new TreeSet<>();
        Set<String> names = new TreeSet<>();
        for (Method m : c.getDeclaredMethods()) {
            if (!Modifier.isPrivate(m.getModifiers())) {
                got.add(told(m));
                names.add(m.getName());
                CHECK.due(m.getName() + " is public, of the object", Modifier.isPublic(m.getModifiers()) && !Modifier.isStatic(m.getModifiers()), true);
            }
        }
        CHECK.due("the methods: " + got, got.equals(due), true);
        constructorsAndFields(c);
        privateNames(c, names);
        for (Class<?> inner : c.getDeclaredClasses()) {
            CHECK.due(inner + " is static, not public", Modifier.isStatic(inner.getModifiers()) && !Modifier.isPublic(inner.getModifiers())
                    && !Modifier.isProtected(inner.getModifiers()), true);
            privateNames(inner, names);
            CHECK.due(inner + " has few fields", inner.getDeclaredFields().length <= 20, true);
        }
        CHECK.due("at most twelve classes", c.getDeclaredClasses().length + 1 <= 12, true);
        CHECK.close();
    }

    private static String told(Method m) {
        String types = Arrays.stream(m.getParameterTypes()).map(Class::getName).collect(Collectors.joining(","));
        String thrown = m.getExceptionTypes().length > 0 ? "!" : "";
        return m.getReturnType() + " " + m.getName() + "(" + types + ")" + thrown;
    }

    private static void constructorsAndFields(Class<?> c) {
        Constructor<?>[] made = c.getDeclaredConstructors();
        CHECK.due("one constructor", made.length, 1);
        CHECK.due("public, without parameters", Modifier.isPublic(made[0].getModifiers()) && made[0].getParameterCount() == 0, true);
        int fields = 0;
        for (Field f : c.getDeclaredFields()) {
            boolean constant = Modifier.isStatic(f.getModifiers()) && Modifier.isFinal(f.getModifiers());
            CHECK.due(f + " is private or NONE", Modifier.isPrivate(f.getModifiers()) || constant && f.getName().equals("NONE"), true);
            CHECK.due(f + " is a constant or of the object", constant || !Modifier.isStatic(f.getModifiers()), true);
            fields += Modifier.isStatic(f.getModifiers()) ? 0 : 1;
        }
        CHECK.due("some twenty fields at most", fields <= 20, true);
    }

    private static void privateNames(Class<?> c, Set<String> face) {
        for (Method m : c.getDeclaredMethods()) {
            if (c != ElderBallast.class || Modifier.isPrivate(m.getModifiers())) {
                CHECK.due(m + " bears no name of the face", face.contains(m.getName()), false);
            }
            CHECK.due(m + " takes at most seven", m.getParameterCount() <= 7, true);
        }
    }
}
