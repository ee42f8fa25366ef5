import java.io.IOException;
import java.lang.reflect.Constructor;
import java.lang.reflect.Field;
import java.lang.reflect.Method;
import java.lang.reflect.Modifier;
import java.nio.file.Files;
import java.nio.file.Path;
import java.util.Arrays;
import java.util.Set;
import java.util.TreeSet;
import java.util.regex.Matcher;
import java.util.regex.Pattern;
import java.util.stream.Collectors;

/** The class has the face that stands in the document (the second argument), no more and no less. */
public final class FaceTest {
    private static final Pattern METHOD = Pattern.compile("public (\\w+) (\\w+)\\(([^)]*)\\);");
    private static final Pattern CONSTANT = Pattern.compile("([A-Z]+) = (-?\\d+)");

    public static void main(String[] args) throws IOException, IllegalAccessException {
        String document = Files.readString(Path.of(args.length > 1 ? args[1] : "../shared/DOC.md"));
        int start = document.indexOf("```java", document.indexOf("## The public face"));
        String face = document.substring(start, document.indexOf("```", start + 3));
        same("the methods", methodsTold(face), methodsOfClass());
        same("the constants", constantsTold(face), constantsOfClass());
        theClass();
        promises(document);
        Calls.end();
    }

    private static void same(String what, Set<String> told, Set<String> found) {
        Calls.check(!told.isEmpty() && told.equals(found), what + " are " + found + ", told are " + told);
    }

    private static Set<String> methodsTold(String face) {
        Set<String> told = new TreeSet<>();
        for (Matcher method = METHOD.matcher(face); method.find();) {
            told.add(method.group(1) + " " + method.group(2) + "(" + method.group(3).replaceAll("(\\w+) \\w+", "$1") + ")");
        }
        return told;
    }

    private static Set<String> methodsOfClass() {
        Set<String> found = new TreeSet<>();
        for (Method method : BackIndex.class.getDeclaredMethods()) {
            if (!Modifier.isPrivate(method.getModifiers())) {
                String types = Arrays.stream(method.getParameterTypes()).map(Class::getName).collect(Collectors.joining(", "));
                found.add(method.getReturnType() + " " + method.getName() + "(" + types + ")");
                Calls.check(method.getModifiers() == Modifier.PUBLIC, method + " is more than public");
            }
        }
        return found;
    }

    private static Set<String> constantsTold(String face) {
        Set<String> told = new TreeSet<>();
        for (Matcher constant = CONSTANT.matcher(face); constant.find();) {
            told.add("int " + constant.group());
        }
        return told;
    }

    private static Set<String> constantsOfClass() throws IllegalAccessException {
        Set<String> found = new TreeSet<>();
        for (Field field : BackIndex.class.getDeclaredFields()) {
            if (!Modifier.isPrivate(field.getModifiers())) {
                boolean isConstant = field.getModifiers() == (Modifier.PUBLIC | Modifier.STATIC | Modifier.FINAL);
                Calls.check(isConstant, field + " is no public constant");
                found.add(field.getType() + " " + field.getName() + " = " + (isConstant ? field.get(null) : ""));
            }
        }
        return found;
    }

    private static void theClass() {
        Constructor<?>[] constructors = BackIndex.class.getDeclaredConstructors();
        Calls.check(constructors.length == 1 && constructors[0].getParameterCount() == 0
                && constructors[0].getModifiers() == Modifier.PUBLIC, "there is not one public constructor with no parameters");
        Calls.check(BackIndex.class.getModifiers() == (Modifier.PUBLIC | Modifier.FINAL), "the class is not public and final");
        Calls.check(BackIndex.class.getPackageName().isEmpty(), "the class is in a package");
        Calls.check(BackIndex.class.getSuperclass() == Object.class && BackIndex.class.getInterfaces().length == 0,
                "the class is of another kind too");
    }

    /** Each promise but the first, which is the constructor's, is of one call of the face. */
    private static void promises(String document) {
        Set<String> told = new TreeSet<>();
        Matcher promise = Pattern.compile("## Promise \\d+: (\\w+)\\s+`(\\w+) (\\w+)\\(([^)]*)\\)`:").matcher(document);
        while (promise.find()) {
            Calls.check(promise.group(1).equals(promise.group(3)), promise.group() + " is of two calls");
            told.add(promise.group(2) + " " + promise.group(3) + "(" + promise.group(4).replaceAll("(\\w+) \\w+", "$1") + ")");
        }
        same("the calls", told, methodsOfClass());
    }
}
