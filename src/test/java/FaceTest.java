import java.lang.reflect.Constructor;
import java.lang.reflect.Field;
import java.lang.reflect.Method;
import java.lang.reflect.Modifier;
import java.util.Arrays;
import java.util.Set;
import java.util.TreeSet;
import java.util.stream.Collectors;
import java.util.stream.Stream;

/** The face of the class: what the document tells, and nothing else. */
public final class FaceTest {
    private static final String INDEX = "IndexOutOfBoundsException";
    private static final String ARGUMENT = "IllegalArgumentException";
    private static final String STATE = "IllegalStateException";

    public static void main(String[] args) {
        Set<String> due = new TreeSet<>(Arrays.asList(
                "int feed(int,int,int,int,int) " + STATE,
                "int trim(int) " + ARGUMENT,
                "int teach() ",
                "int errorAt() ",
                "int count(int) " + INDEX,
                "int band(int,int) " + INDEX,
                "int stake(int,int) " + INDEX,
                "int crevasse(int,int) " + INDEX,
                "int depot(int,int) " + INDEX,
                "int team(int,int) " + INDEX,
                "int go(int,boolean) " + INDEX + "," + STATE,
                "int probe(int,int) " + INDEX + "," + STATE,
                "int fill(int,int) " + INDEX + "," + ARGUMENT + "," + STATE,
                "int stock(int,int) " + INDEX + "," + ARGUMENT,
                "int setWarm(int,int) " + INDEX + "," + ARGUMENT,
                "int pass(int) " + ARGUMENT,
                "int melt(int,int) " + INDEX + "," + ARGUMENT,
                "int until(int) " + INDEX,
                "int foresee(int,int) " + ARGUMENT + "," + INDEX,
                "boolean safe(int,boolean) " + INDEX,
                "int advise(int,int) " + INDEX + "," + ARGUMENT + "," + STATE,
                "double mean() ",
                "long digest() "));
        Set<String> names = new TreeSet<>();
        for (Method method : GlacierCamp.class.getDeclaredMethods()) {
            if (Modifier.isPublic(method.getModifiers())) {
                Check.note(due.remove(face(method)), "public " + face(method));
                Check.note(!Modifier.isStatic(method.getModifiers()), "static " + face(method));
                names.add(method.getName());
            }
        }
        Check.note(due.isEmpty(), "there is no " + due);
        hidden(names);
        Check.note(Modifier.isFinal(GlacierCamp.class.getModifiers()), "the class is not final");
        Constructor<?>[] constructors = GlacierCamp.class.getDeclaredConstructors();
        Check.note(constructors.length == 1 && Modifier.isPublic(constructors[0].getModifiers())
                && constructors[0].getParameterCount() == 0, "constructors");
        Check.end();
    }

    private static String face(Method method) {
        return method.getReturnType().getSimpleName() + " " + method.getName() + "("
                + list(method.getParameterTypes()) + ") " + list(method.getExceptionTypes());
    }

    private static String list(Class<?>[] types) {
        return Stream.of(types).map(Class::getSimpleName).collect(Collectors.joining(","));
    }

    private static void hidden(Set<String> names) {
        for (Class<?> type : classes()) {
            boolean outer = type == GlacierCamp.class;
            for (Method method : type.getDeclaredMethods()) {
                boolean open = Modifier.isPublic(method.getModifiers());
                Check.note(!outer || open || Modifier.isPrivate(method.getModifiers()), "not private: " + method);
                Check.note(outer && open || !names.contains(method.getName()), "bears a public name: " + method);
                Check.note(method.getParameterCount() <= 7, "too many parameters: " + method);
            }
            int fields = 0;
            for (Field field : type.getDeclaredFields()) {
                boolean still = Modifier.isStatic(field.getModifiers());
                fields += still ? 0 : 1;
                Check.note(!outer || Modifier.isPrivate(field.getModifiers()), "not private: " + field);
                Check.note(!still || Modifier.isFinal(field.getModifiers()), "not final: " + field);
            }
            Check.note(fields <= 20, "too many fields: " + type);
        }
        Check.note(classes().length <= 12, "too many classes");
    }

    private static Class<?>[] classes() {
        return Stream.concat(Stream.of(GlacierCamp.class), Stream.of(GlacierCamp.class.getDeclaredClasses()))
                .toArray(Class<?>[]::new);
    }
}
