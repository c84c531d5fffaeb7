import java.lang.reflect.Constructor;
import java.lang.reflect.Field;
import java.lang.reflect.Method;
import java.lang.reflect.Modifier;
import java.util.Set;
import java.util.TreeSet;

/** The public face: just what the document names, and nothing else that can be reached. */
public final class FaceTest {
    private static final String[] FACE = {
        "int keeper(int int int )", "int lie(int int )", "int deal(int int int int int )", "int fresh(int int )",
        "int flood(int )", "int rebuild(int int int )", "int freeze(int int boolean )", "int pass(int )",
        "int open(int int )", "int knock()", "int ofKeeper(int int )", "int ofSecret(int int )",
        "int share(int int int )", "int bank(int )", "int ofEntry(int int )", "int proof(int int )",
        "class java.lang.String row(int )", "int would(int int int )", "boolean may(int int int )",
        "double lost(int )", "int fewest(int )", "boolean proves(int int )", "boolean isSound()", "long digest()"};

    private static final String INDEX = "IndexOutOfBoundsException ";
    private static final String ARGUMENT = "IllegalArgumentException ";
    private static final String STATE = "IllegalStateException ";

    public static void main(String[] args) {
        Class<?> it = Threeboxes.class;
        Check.same("public", Modifier.isPublic(it.getModifiers()), true);
        Check.same("final", Modifier.isFinal(it.getModifiers()), true);
        Check.same("without a package", it.getPackageName(), "");
        Check.same("methods", methodsOf(it).toString(), new TreeSet<>(Set.of(FACE)).toString());
        Check.same("constructors", it.getDeclaredConstructors().length, 1);
        Constructor<?> made = it.getDeclaredConstructors()[0];
        Check.same("a constructor that is public", Modifier.isPublic(made.getModifiers()), true);
        Check.same("and takes nothing", made.getParameterCount(), 0);
        for (Field field : it.getDeclaredFields()) {
            Check.same("private: " + field.getName(), Modifier.isPrivate(field.getModifiers()), true);
        }
        for (Method method : it.getDeclaredMethods()) {
            if (Modifier.isPublic(method.getModifiers())) {
                Check.same(method.getName() + " throws", thrownBy(method), dueOf(method.getName()));
            }
        }
        Check.end();
    }

    private static String thrownBy(Method method) {
        StringBuilder text = new StringBuilder();
        for (Class<?> one : method.getExceptionTypes()) {
            text.append(one.getSimpleName()).append(' ');
        }
        return text.toString();
    }

    /** What the document writes behind throws, in its order. */
    private static String dueOf(String name) {
        switch (name) {
            case "keeper": case "deal": case "pass":
                return ARGUMENT + STATE;
            case "fresh": case "rebuild":
                return INDEX + ARGUMENT + STATE;
            case "flood": case "freeze": case "proof": case "row": case "lost": case "fewest":
                return INDEX;
            case "lie": case "open": case "ofKeeper": case "ofSecret": case "share": case "ofEntry": case "would":
            case "may": case "proves":
                return INDEX + ARGUMENT;
            case "bank":
                return ARGUMENT;
            default:
                return "";
        }
    }

    private static Set<String> methodsOf(Class<?> it) {
        Set<String> open = new TreeSet<>();
        Set<String> hidden = new TreeSet<>();
        for (Method method : it.getDeclaredMethods()) {
            if (Modifier.isPrivate(method.getModifiers())) {
                hidden.add(method.getName());
                continue;
            }
            StringBuilder text = new StringBuilder();
            text.append(method.getReturnType()).append(' ').append(method.getName()).append('(');
            for (Class<?> type : method.getParameterTypes()) {
                text.append(type).append(' ');
            }
            open.add(text.append(')').toString());
            Check.same("no static " + method.getName(), Modifier.isStatic(method.getModifiers()), false);
        }
        for (String name : hidden) {
            boolean isTwice = false;
            for (String one : open) {
                isTwice |= one.contains(" " + name + "(");
            }
            Check.same("a private method named as a public one: " + name, isTwice, false);
        }
        return open;
    }
}
