import java.lang.reflect.Constructor;
import java.lang.reflect.Field;
import java.lang.reflect.Member;
import java.lang.reflect.Method;
import java.lang.reflect.Modifier;
import java.util.Arrays;
import java.util.Set;
import java.util.TreeSet;
import java.util.stream.Collectors;

/** The public face, as the document writes it, and rule 1 of LANGUAGE.md. */
final class FaceTest {
    private static final String INDEX = "IndexOutOfBoundsException";
    private static final String ARGUMENT = "IllegalArgumentException";
    private static final String STATE = "IllegalStateException";
    private static final String UNSUPPORTED = "UnsupportedOperationException";

    public static void main(String[] args) throws Exception {
        Set<String> due = new TreeSet<>();
        due.add(line("int suite(int,int)", INDEX, ARGUMENT, UNSUPPORTED));
        due.add(line("int range(int,int,int)", INDEX, ARGUMENT));
        due.add(line("void seed(int,int)", INDEX));
        due.add(line("int wish(int,int,int)", INDEX, ARGUMENT, STATE, UNSUPPORTED));
        due.add(line("int deliver(int,int)", INDEX));
        due.add(line("int lose(int,int)", INDEX));
        due.add(line("int twice(int,int)", INDEX));
        due.add(line("int tick(int)", ARGUMENT));
        due.add(line("int children(int)", INDEX));
        due.add(line("int child(int,int,int)", INDEX, ARGUMENT));
        due.add(line("int flying(int)", INDEX));
        due.add(line("int packet(int,int,int)", INDEX, ARGUMENT));
        due.add(line("int told(int,int)", INDEX, ARGUMENT));
        due.add(line("int agreed()"));
        due.add(line("void clear()"));
        Set<String> found = new TreeSet<>();
        Set<String> names = new TreeSet<>();
        for (Method each : RekeyPeers.class.getDeclaredMethods()) {
            if (isOpen(each)) {
                found.add(lineOf(each));
                names.add(each.getName());
            }
        }
        Expect.sameText("the methods", found.toString(), due.toString());
        for (Method each : RekeyPeers.class.getDeclaredMethods()) {
            if (Modifier.isPrivate(each.getModifiers())) {
                Expect.holds("private " + each.getName() + " bears no public name", !names.contains(each.getName()));
            }
        }
        Set<String> constants = new TreeSet<>();
        for (Field each : RekeyPeers.class.getDeclaredFields()) {
            if (isOpen(each)) {
                constants.add(Modifier.toString(each.getModifiers()) + " " + each.getName() + " " + each.getInt(null));
            }
        }
        Expect.sameText("the constants", constants.toString(), "[public static final DELETE 2, "
                + "public static final NONE -1, public static final OPEN 0, public static final RENEW 1]");
        Constructor<?>[] constructors = RekeyPeers.class.getDeclaredConstructors();
        Expect.same("constructors", constructors.length, 1);
        Expect.holds("the constructor is public", Modifier.isPublic(constructors[0].getModifiers()));
        Expect.same("the constructor's parameters", constructors[0].getParameterCount(), 0);
        Expect.sameText("the class", Modifier.toString(RekeyPeers.class.getModifiers()), "public final");
        Expect.end();
    }

    private static boolean isOpen(Member member) {
        return !Modifier.isPrivate(member.getModifiers()) && !member.isSynthetic();
    }

    private static String line(String start, String... thrown) {
        return "public " + start + " " + Arrays.toString(thrown);
    }

    private static String lineOf(Method method) {
        String parameters = Arrays.stream(method.getParameterTypes()).map(Class::getSimpleName)
                .collect(Collectors.joining(","));
        String[] thrown = Arrays.stream(method.getExceptionTypes()).map(Class::getSimpleName).toArray(String[]::new);
        return Modifier.toString(method.getModifiers()) + " " + method.getReturnType().getSimpleName() + " "
                + method.getName() + "(" + parameters + ") " + Arrays.toString(thrown);
    }
}
