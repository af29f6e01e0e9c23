import java.lang.reflect.Constructor;
import java.lang.reflect.Field;
import java.lang.reflect.Method;
import java.lang.reflect.Modifier;
import java.util.Arrays;
import java.util.Set;
import java.util.TreeSet;

/** The face of the document, and nothing else that can be seen from outside; LANGUAGE.md 1, 2, 5, 11. */
public final class FaceTest {
    private static final String[] FACE = {
        "int write(int)", "int wipe()", "int fault()", "int ordain()", "int about(int)", "int dog(int,int)",
        "int man(int,int)", "int lead(int,int)", "int leash(int)", "int give(int,int)", "int hour()", "int undo()",
        "int caught(int)", "int routes(int,int,int,int)", "int aired(int)", "int heir(int)", "int pays(int,int)",
        "int spans(int,int,int)", "int see(int,int,int)", "int unsee()", "int walks()", "int sure(int)",
        "int rests(int,int)", "int chance(int,int,boolean)", "long seed(long)", "int days(int)", "int keep(int)",
        "int again(int)"};

    public static void main(String[] args) {
        constants();
        members();
        insides();
        Due.end();
    }

    private static void constants() {
        Due.is("UNKNOWN", HoundLicence.UNKNOWN, -1);
        Due.is("BAD", HoundLicence.BAD, -2);
        Due.is("LATE", HoundLicence.LATE, -3);
        Due.is("FULL", HoundLicence.FULL, -4);
        Due.is("NONE", HoundLicence.NONE, -9);
    }

    private static void members() {
        Class<?> face = HoundLicence.class;
        Due.is("modifiers of the class", face.getModifiers(), Modifier.PUBLIC | Modifier.FINAL);
        Due.is("constructors", face.getDeclaredConstructors().length, 1);
        for (Constructor<?> made : face.getDeclaredConstructors()) {
            Due.that("public, without parameters: " + made,
                Modifier.isPublic(made.getModifiers()) && made.getParameterCount() == 0);
        }
        Set<String> seen = new TreeSet<>();
        for (Method method : face.getDeclaredMethods()) {
            if (!Modifier.isPrivate(method.getModifiers())) {
                Due.is("modifiers of " + method, method.getModifiers(), Modifier.PUBLIC);
                seen.add(told(method));
            }
        }
        Due.that("methods are " + seen, seen.equals(new TreeSet<>(Arrays.asList(FACE))));
        Set<String> fields = new TreeSet<>();
        for (Field field : face.getDeclaredFields()) {
            if (!Modifier.isPrivate(field.getModifiers())) {
                Due.is("modifiers of " + field, field.getModifiers(),
                    Modifier.PUBLIC | Modifier.STATIC | Modifier.FINAL);
                Due.that("an int: " + field, field.getType() == int.class);
                fields.add(field.getName());
            }
        }
        Due.that("constants are " + fields, fields.equals(Set.of("UNKNOWN", "BAD", "LATE", "FULL", "NONE")));
    }

    private static String told(Method method) {
        StringBuilder types = new StringBuilder();
        for (Class<?> type : method.getParameterTypes()) {
            types.append(types.isEmpty() ? "" : ",").append(type);
        }
        return method.getReturnType() + " " + method.getName() + "(" + types + ")";
    }

    private static void insides() {
        Set<String> names = new TreeSet<>();
        for (String method : FACE) {
            names.add(method.substring(method.indexOf(' ') + 1, method.indexOf('(')));
        }
        Class<?>[] inside = HoundLicence.class.getDeclaredClasses();
        Due.that("some twelve classes at most", inside.length < 12);
        inside(HoundLicence.class, Set.of());
        for (Class<?> one : inside) {
            Due.that("private and static: " + one,
                Modifier.isPrivate(one.getModifiers()) && Modifier.isStatic(one.getModifiers()));
            inside(one, names);
        }
        for (Method method : HoundLicence.class.getDeclaredMethods()) {
            if (Modifier.isPrivate(method.getModifiers())) {
                Due.that("a name of its own: " + method, !names.contains(method.getName()));
            }
        }
    }

    private static void inside(Class<?> one, Set<String> names) {
        int fields = 0;
        for (Field field : one.getDeclaredFields()) {
            boolean isStatic = Modifier.isStatic(field.getModifiers());
            fields += isStatic ? 0 : 1;
            Due.that("final: " + field, !isStatic || Modifier.isFinal(field.getModifiers()));
        }
        Due.that("some twenty fields at most in " + one, fields <= 20);
        for (Method method : one.getDeclaredMethods()) {
            Due.that("a name of its own: " + method, !names.contains(method.getName()));
            Due.that("seven parameters at most: " + method, method.getParameterCount() <= 7);
        }
    }
}
