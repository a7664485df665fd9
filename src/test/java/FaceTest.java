import java.lang.reflect.Constructor;
import java.lang.reflect.Field;
import java.lang.reflect.Method;
import java.lang.reflect.Modifier;
import java.util.Set;
import java.util.TreeSet;

/** The public face, and the rules of the language that can be seen in the compiled class. */
public final class FaceTest {
    private static final Set<String> METHODS = Set.of("int type(long,int)", "int pass()", "int read()", "int line()",
        "int quad(int,int)", "int term(int,int)", "int code(int,int)", "int find(int,int,int,int)", "int drop(int)",
        "int print(int)", "int at(int)", "int count(int)");

    private FaceTest() {
    }

    public static void main(String[] args) {
        Check.due("public and final", TripleLines.class.getModifiers(), Modifier.PUBLIC | Modifier.FINAL);
        methods();
        fields();
        constructors();
        classesInside();
        Check.end();
    }

    private static String form(Method method) {
        StringBuilder form = new StringBuilder(method.getReturnType() + " " + method.getName() + "(");
        for (Class<?> type : method.getParameterTypes()) {
            form.append(form.charAt(form.length() - 1) == '(' ? "" : ",").append(type);
        }
        return form.append(')').toString();
    }

    private static void methods() {
        Set<String> found = new TreeSet<>();
        for (Method method : TripleLines.class.getDeclaredMethods()) {
            if (!Modifier.isPrivate(method.getModifiers())) {
                found.add(form(method));
                Check.due("modifiers of " + method.getName(), method.getModifiers(), Modifier.PUBLIC);
            }
        }
        Check.due("methods", found, new TreeSet<>(METHODS));
    }

    private static void fields() {
        Set<String> found = new TreeSet<>();
        for (Field field : TripleLines.class.getDeclaredFields()) {
            if (!Modifier.isPrivate(field.getModifiers())) {
                found.add(field.getName());
                Check.due("modifiers of " + field.getName(), field.getModifiers(),
                    Modifier.PUBLIC | Modifier.STATIC | Modifier.FINAL);
            }
        }
        Check.due("constants", found, Set.of("BAD", "NO", "FULL"));
    }

    private static void constructors() {
        Constructor<?>[] found = TripleLines.class.getDeclaredConstructors();
        Check.due("constructors", found.length, 1);
        Check.due("its parameters", found[0].getParameterCount(), 0);
        Check.due("its modifiers", found[0].getModifiers(), Modifier.PUBLIC);
    }

    private static void classesInside() {
        Set<String> names = new TreeSet<>();
        for (String method : METHODS) {
            names.add(method.substring(4, method.indexOf('(')));
        }
        for (Class<?> inside : TripleLines.class.getDeclaredClasses()) {
            Check.due(inside + " is static", Modifier.isStatic(inside.getModifiers()), true);
            Check.due(inside + " is not public", Modifier.isPublic(inside.getModifiers()), false);
            Check.due(inside + " has few fields", inside.getDeclaredFields().length <= 20, true);
            for (Method method : inside.getDeclaredMethods()) {
                Check.due(inside + " uses the name " + method.getName(), names.contains(method.getName()), false);
            }
        }
    }
}
