import java.lang.reflect.Constructor;
import java.lang.reflect.Field;
import java.lang.reflect.Method;
import java.lang.reflect.Modifier;
import java.util.Arrays;
import java.util.Set;
import java.util.TreeSet;

/** The public face: every constant, the constructor and every method, and nothing beside them. */
public final class FaceTest {
    private static final String[] FACE = {
        "int ring(int,int,int,int)", "int ofPlace(int,int)", "int write(int,int)", "int steps(int)",
        "int after(int,long)", "int day(int,int,int,int,int)", "int now(int)", "int from(int)", "int rows(int)",
        "int longest(int)", "int meet(int,int,int)", "int few(int)", "int reading(int,int,int)", "int back(int)",
        "int kinds(int)", "int firsts(int)", "long odds(int,int,int,int)", "int sheet(int,int,int)", "int lose(int)",
        "int put(int,int,int)", "long cell(int,int,int)", "int copy(int,int,int,int,int)", "int tell(int)",
        "int call(int)", "int as(int,int)", "int trace()", "int fault()", "int many(int)"};

    public static void main(String[] args) throws Exception {
        Due due = new Due("FaceTest");
        Class<?> face = DifferRings.class;
        due.holds("the class is public", Modifier.isPublic(face.getModifiers()));
        due.holds("the class is final", Modifier.isFinal(face.getModifiers()));
        methods(due, face);
        fields(due, face);
        Constructor<?>[] makers = face.getDeclaredConstructors();
        due.is("constructors", makers.length, 1);
        due.is("parameters of the constructor", makers[0].getParameterCount(), 0);
        due.holds("the constructor is public", Modifier.isPublic(makers[0].getModifiers()));
        for (Class<?> inside : face.getDeclaredClasses()) {
            due.holds(inside + " is static", Modifier.isStatic(inside.getModifiers()));
            due.holds(inside + " is not public", !Modifier.isPublic(inside.getModifiers()));
            insideOf(due, inside);
        }
        due.holds("at most twelve classes", face.getDeclaredClasses().length < 12);
        due.end();
    }

    private static void methods(Due due, Class<?> face) {
        Set<String> want = new TreeSet<>(Arrays.asList(FACE));
        Set<String> got = new TreeSet<>();
        Set<String> names = new TreeSet<>();
        for (Method m : face.getDeclaredMethods()) {
            if (!Modifier.isPrivate(m.getModifiers())) {
                String types = Arrays.toString(Arrays.stream(m.getParameterTypes()).map(Class::getName).toArray());
                got.add(m.getReturnType() + " " + m.getName() + types.replace('[', '(').replace(']', ')').replace(" ", ""));
                names.add(m.getName());
                due.holds(m + " is public", Modifier.isPublic(m.getModifiers()));
                due.holds(m + " is not static", !Modifier.isStatic(m.getModifiers()));
            }
        }
        due.holds("the methods are " + want + ", not " + got, want.equals(got));
        for (Method m : face.getDeclaredMethods()) {
            due.holds("no private " + m.getName(), !Modifier.isPrivate(m.getModifiers()) || !names.contains(m.getName()));
            due.holds("few parameters of " + m, m.getParameterCount() <= 7);
        }
    }

    private static void insideOf(Due due, Class<?> inside) {
        int fields = 0;
        for (Field f : inside.getDeclaredFields()) {
            boolean isStatic = Modifier.isStatic(f.getModifiers());
            due.holds("static " + f + " is final", !isStatic || Modifier.isFinal(f.getModifiers()));
            fields += isStatic ? 0 : 1;
        }
        due.holds("at most twenty fields in " + inside, fields <= 20);
        for (Method m : inside.getDeclaredMethods()) {
            String call = " " + m.getName() + "(";
            due.holds("no call's name for " + m, Arrays.stream(FACE).noneMatch(one -> one.contains(call)));
            due.holds("few parameters of " + m, m.getParameterCount() <= 7);
        }
    }

    private static void fields(Due due, Class<?> face) throws Exception {
        Set<String> open = new TreeSet<>();
        for (Field f : face.getDeclaredFields()) {
            if (!Modifier.isPrivate(f.getModifiers())) {
                open.add(f.getName());
                int bits = Modifier.PUBLIC | Modifier.STATIC | Modifier.FINAL;
                due.is("modifiers of " + f.getName(), f.getModifiers() & bits, bits);
            }
            due.holds("static " + f.getName() + " is final",
                !Modifier.isStatic(f.getModifiers()) || Modifier.isFinal(f.getModifiers()));
        }
        due.holds("constants", open.equals(Set.of("UNKNOWN", "OUTSIDE", "STATE", "FULL", "NONE", "LOST")));
        due.is("UNKNOWN", DifferRings.UNKNOWN, -1);
        due.is("OUTSIDE", DifferRings.OUTSIDE, -2);
        due.is("STATE", DifferRings.STATE, -3);
        due.is("FULL", DifferRings.FULL, -4);
        due.is("NONE", DifferRings.NONE, -9);
        due.is("LOST", DifferRings.LOST, Long.MIN_VALUE);
        due.holds("LOST is a long", face.getField("LOST").getType() == long.class);
        due.holds("NONE is an int", face.getField("NONE").getType() == int.class);
    }
}
