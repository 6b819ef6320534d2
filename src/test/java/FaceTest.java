import java.lang.reflect.Constructor;
import java.lang.reflect.Field;
import java.lang.reflect.Method;
import java.lang.reflect.Modifier;
import java.util.Set;
import java.util.TreeSet;

/** The class has the document's face and no other visible member (LANGUAGE.md, rules 1 and 5). */
public final class FaceTest {
    private static final String INDEX = "IllegalArgumentException IndexOutOfBoundsException";
    private static final String STATE = INDEX + " IllegalStateException";
    private static final String ARGUMENT = "IllegalArgumentException";

    private static final Checks CHECKS = new Checks();

    public static void main(String[] args) {
        CHECKS.about("face");
        CHECKS.due("modifiers", Modifier.PUBLIC | Modifier.FINAL, MarkedPages.class.getModifiers());
        CHECKS.due("public methods", face(), publicMethods());
        constructorIsTheOnlyOne();
        privateMethodsHaveNamesOfTheirOwn();
        fieldsArePrivate();
        classesInsideAreStaticAndNotPublic();
        CHECKS.end();
    }

    private static Set<String> face() {
        return new TreeSet<>(Set.of(
                "int write(int int char) " + STATE,
                "char erase(int int) " + STATE,
                "int mark(int int int int) " + STATE,
                "int tell(int int int) " + ARGUMENT,
                "int length(int) " + ARGUMENT,
                "char at(int int) " + INDEX,
                "int format(int int) " + INDEX,
                "int id(int int) " + INDEX,
                "int runs(int) " + ARGUMENT,
                "int run(int int int) " + INDEX,
                "int count(int int) " + ARGUMENT,
                "boolean alike(int int) " + ARGUMENT));
    }

    private static Set<String> publicMethods() {
        Set<String> found = new TreeSet<>();
        for (Method method : MarkedPages.class.getDeclaredMethods()) {
            if (!Modifier.isPrivate(method.getModifiers())) {
                found.add(method.getReturnType().getSimpleName() + " " + method.getName()
                        + "(" + names(method.getParameterTypes()) + ") " + names(method.getExceptionTypes()));
                CHECKS.due(method + " is public alone", Modifier.PUBLIC, method.getModifiers());
            }
        }
        return found;
    }

    private static String names(Class<?>[] types) {
        StringBuilder all = new StringBuilder();
        for (Class<?> type : types) {
            all.append(all.length() == 0 ? "" : " ").append(type.getSimpleName());
        }
        return all.toString();
    }

    private static void constructorIsTheOnlyOne() {
        Constructor<?>[] constructors = MarkedPages.class.getDeclaredConstructors();
        CHECKS.due("number of constructors", 1, constructors.length);
        CHECKS.due("constructor", "public MarkedPages()", constructors[0].toString());
    }

    private static void privateMethodsHaveNamesOfTheirOwn() {
        Set<String> publicNames = new TreeSet<>();
        for (Method method : MarkedPages.class.getDeclaredMethods()) {
            if (Modifier.isPublic(method.getModifiers())) {
                publicNames.add(method.getName());
            }
        }
        for (Method method : MarkedPages.class.getDeclaredMethods()) {
            if (!Modifier.isPublic(method.getModifiers())) {
                CHECKS.due(method + " has a public one's name", false, publicNames.contains(method.getName()));
            }
        }
    }

    private static void fieldsArePrivate() {
        for (Field field : MarkedPages.class.getDeclaredFields()) {
            int modifiers = field.getModifiers();
            CHECKS.due(field + " is private", true, Modifier.isPrivate(modifiers));
            CHECKS.due(field + " is final if static", true,
                    Modifier.isFinal(modifiers) || !Modifier.isStatic(modifiers));
        }
    }

    private static void classesInsideAreStaticAndNotPublic() {
        for (Class<?> inside : MarkedPages.class.getDeclaredClasses()) {
            int modifiers = inside.getModifiers();
            CHECKS.due(inside + " is static", true, Modifier.isStatic(modifiers));
            CHECKS.due(inside + " is public or protected", false,
                    Modifier.isPublic(modifiers) || Modifier.isProtected(modifiers));
        }
    }
}
