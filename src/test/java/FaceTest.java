import java.lang.reflect.Constructor;
import java.lang.reflect.Field;
import java.lang.reflect.Method;
import java.lang.reflect.Modifier;
import java.util.Arrays;
import java.util.Set;
import java.util.TreeSet;
import java.util.stream.Collectors;

/** Promise 1 and the document's public face: these members, and no others to be seen. */
public final class FaceTest {
    private static final String INDEX = " throws IndexOutOfBoundsException";
    private static final String ARGUMENT = ",IllegalArgumentException";
    private static final String STATE = ",IllegalStateException";

    private static final Set<String> METHODS = new TreeSet<>(Arrays.asList(
            "int tool(int,int,int)" + INDEX + ARGUMENT + STATE,
            "void rate(int,int,int)" + INDEX + ARGUMENT,
            "void limit(int,long)" + INDEX + ARGUMENT,
            "boolean use(int,int,int,int)" + INDEX + ARGUMENT + STATE,
            "boolean grind(int,int)" + INDEX + ARGUMENT + STATE,
            "long about(int,int)" + INDEX,
            "int spare(int)" + INDEX,
            "int take(int)" + INDEX,
            "boolean bring(int)" + INDEX,
            "int life(int,int)" + INDEX + ARGUMENT + STATE,
            "void cost(int,int,int)" + INDEX + ARGUMENT,
            "int change(int)" + INDEX + STATE,
            "long changed(int,int,int)" + INDEX + ARGUMENT + STATE,
            "int breaks(int,int)" + INDEX + ARGUMENT + STATE,
            "void rules(int,int,int,int) throws IllegalArgumentException",
            "int power(int,int,int)" + INDEX + ARGUMENT,
            "boolean order(int,int)" + INDEX + ARGUMENT,
            "int joined(int,int)" + INDEX + ARGUMENT,
            "int open()",
            "int chip(int,int,int,int)" + INDEX + ARGUMENT));

    public static void main(String[] args) throws IllegalAccessException {
        Check check = new Check();
        check.same("class", "public final", Modifier.toString(EdgeWear.class.getModifiers()));
        members(check);
        classesInside(check);
        constants(check);
        everySeedMakesAnObject(check);
        objectsShareNothing(check);
        check.end();
    }

    private static void members(Check check) {
        Set<String> seen = new TreeSet<>();
        Set<String> publicNames = new TreeSet<>();
        Set<String> privateNames = new TreeSet<>();
        for (Method method : EdgeWear.class.getDeclaredMethods()) {
            if (Modifier.isPrivate(method.getModifiers())) {
                privateNames.add(method.getName());
                continue;
            }
            publicNames.add(method.getName());
            seen.add(told(method));
        }
        check.same("methods", METHODS.toString(), seen.toString());
        privateNames.retainAll(publicNames);
        check.same("private methods with a public name", "[]", privateNames.toString());

        String made = Arrays.stream(EdgeWear.class.getDeclaredConstructors())
                .map(Constructor::toString).collect(Collectors.joining(";"));
        check.same("constructors", "public EdgeWear(int)", made);
    }

    private static String told(Method method) {
        String kind = Modifier.toString(method.getModifiers());
        String head = kind.equals("public") ? "" : kind + " ";
        String thrown = names(method.getExceptionTypes());
        return head + method.getReturnType().getSimpleName() + " " + method.getName()
                + "(" + names(method.getParameterTypes()) + ")"
                + (thrown.isEmpty() ? "" : " throws " + thrown);
    }

    private static String names(Class<?>[] types) {
        return Arrays.stream(types).map(Class::getSimpleName).collect(Collectors.joining(","));
    }

    private static void classesInside(Check check) {
        for (Class<?> inside : EdgeWear.class.getDeclaredClasses()) {
            int kind = inside.getModifiers();
            check.due(inside.getName() + " is static and not to be seen from outside", true,
                    () -> Modifier.isStatic(kind) && !Modifier.isPublic(kind) && !Modifier.isProtected(kind));
        }
    }

    private static void constants(Check check) throws IllegalAccessException {
        Set<String> seen = new TreeSet<>();
        for (Field field : EdgeWear.class.getDeclaredFields()) {
            int kind = field.getModifiers();
            check.same(field.getName() + " static or not final", "true",
                    String.valueOf(!Modifier.isStatic(kind) || Modifier.isFinal(kind)));
            if (!Modifier.isPrivate(kind)) {
                seen.add(Modifier.toString(kind) + " " + field.getType() + " "
                        + field.getName() + "=" + field.get(null));
            }
        }
        Set<String> want = new TreeSet<>(Arrays.asList(
                "public static final int NONE=-1", "public static final int BARRED=1",
                "public static final int BLUNT=2", "public static final int OUT=4"));
        check.same("constants", want.toString(), seen.toString());
    }

    private static void everySeedMakesAnObject(Check check) {
        check.sentence("1: A SEED");
        for (int seed : new int[] {0, 1, -1, Integer.MAX_VALUE, Integer.MIN_VALUE}) {
            EdgeWear x = new EdgeWear(seed);
            check.due("open() of a new object", 0, x::open);
            for (int sort = 0; sort < 4; sort++) {
                int s = sort;
                check.due("spare of a new object", 0, () -> x.spare(s));
                check.due("take of a new object", EdgeWear.NONE, () -> x.take(s));
                check.due("joined of a new object", 0, () -> x.joined(s, 0));
                check.due("change of a new object", Check.STATE, () -> x.change(s));
            }
            check.due("about(0, 0) of a new object", Check.INDEX, () -> x.about(0, 0));
        }
    }

    private static void objectsShareNothing(Check check) {
        check.sentence("1: A new object");
        EdgeWear full = Shops.full();
        EdgeWear x = new EdgeWear(7);
        check.due("no tools", Check.INDEX, () -> x.about(0, 0));
        check.due("no lives", 1, () -> x.life(0, 5));
        check.due("no orders", 0, x::open);
        check.due("room for a tool", 0, () -> x.tool(3, 5, 5));
        check.due("room for an order", true, () -> x.order(0, 0));
        check.due("the full one is as it was", 16, full::open);
        check.due("it has no room", Check.STATE, () -> full.tool(0, 5, 5));
        check.due("its tool 0 is as it was", 10L, () -> full.about(0, 1));
    }
}
