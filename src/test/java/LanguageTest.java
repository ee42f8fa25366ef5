import java.io.IOException;
import java.lang.reflect.Field;
import java.lang.reflect.Member;
import java.lang.reflect.Method;
import java.lang.reflect.Modifier;
import java.nio.file.Files;
import java.nio.file.Path;
import java.util.HashSet;
import java.util.List;
import java.util.Set;
import java.util.regex.Pattern;

/** The rules of LANGUAGE.md, as far as they can be seen from the class and its text (the first argument); CallTreeTest has those on calls. */
public final class LanguageTest {
    public static void main(String[] args) throws IOException {
        String text = Files.readString(Path.of(args.length > 0 ? args[0] : "src/main/java/BackIndex.java"));
        classes();
        words(bare(text));
        lengths(bare(text));
        Calls.end();
    }

    /** The names of the public methods, which no other one bears. */
    private static Set<String> face() {
        Set<String> names = new HashSet<>();
        for (Method method : BackIndex.class.getDeclaredMethods()) {
            if (Modifier.isPublic(method.getModifiers())) {
                names.add(method.getName());
            }
        }
        return names;
    }

    private static void classes() {
        Class<?>[] inside = BackIndex.class.getDeclaredClasses();
        Calls.check(inside.length <= 12, "there are many classes: " + inside.length);
        members(BackIndex.class);
        for (Class<?> each : inside) {
            Calls.check(Modifier.isStatic(each.getModifiers()) && Modifier.isPrivate(each.getModifiers()), each + " is not as told");
            Calls.check(each.getDeclaredClasses().length == 0, each + " has classes of its own");
            members(each);
        }
    }

    private static void members(Class<?> each) {
        Set<String> face = face();
        int fields = 0;
        for (Field field : each.getDeclaredFields()) {
            isHidden(field);
            boolean isConstant = Modifier.isStatic(field.getModifiers());
            fields += isConstant ? 0 : 1;
            Calls.check(!isConstant || Modifier.isFinal(field.getModifiers()), field + " is static and not final");
        }
        Calls.check(fields <= 20, each + " has many fields: " + fields);
        for (Method method : each.getDeclaredMethods()) {
            boolean isPublic = isHidden(method);
            Calls.check(isPublic || !face.contains(method.getName()), method + " bears the name of a public one");
            Calls.check(method.getParameterCount() <= 7, method + " takes many parameters");
        }
    }

    /** Private, or one of the face; the answer is whether it is one of the face. */
    private static boolean isHidden(Member member) {
        boolean isPublic = Modifier.isPublic(member.getModifiers());
        Calls.check(isPublic ? member.getDeclaringClass() == BackIndex.class : Modifier.isPrivate(member.getModifiers()),
                member + " can be seen");
        return isPublic;
    }

    /** The text without comments, texts and signs, its lines as they were. */
    private static String bare(String text) {
        String noBlocks = Pattern.compile("/\\*.*?\\*/", Pattern.DOTALL).matcher(text)
                .replaceAll(match -> match.group().replaceAll("[^\n]", ""));
        return noBlocks.replaceAll("//[^\n]*", "").replaceAll("'(\\\\.|[^'\\\\])'", "' '").replaceAll("\"[^\"\n]*\"", "\"\"");
    }

    private static void words(String text) {
        String ruledOut = "throw throws try catch finally synchronized assert import package native volatile transient double float "
                + "instanceof protected lambda equals hashCode toString";
        for (String word : ruledOut.split(" ")) {
            Calls.check(!Pattern.compile("\\b" + word + "\\b").matcher(text).find(), "the text has the word " + word);
        }
        for (String sign : List.of("->", "::", "static {", "@")) {
            Calls.check(!text.contains(sign), "the text has " + sign);
        }
        Calls.check(!Pattern.compile("new \\w+\\([^)]*\\)\\s*\\{").matcher(text).find(), "the text has a class without a name");
        Calls.check(!Pattern.compile("while \\(true\\)|for \\(;;\\)").matcher(text).find(), "the text has a loop without an end");
    }

    private static void lengths(String text) {
        String[] lines = text.split("\n");
        int from = 0;
        for (int k = 0; k < lines.length; k++) {
            String line = lines[k];
            String margin = line.substring(0, line.length() - line.stripLeading().length());
            boolean isInside = margin.length() == 4 || margin.length() == 8;
            if (isInside && line.endsWith(") {") && line.matches("\\s+(public|private) .*")) {
                from = k;
            }
            if (isInside && line.strip().equals("}") && lines[from].startsWith(margin + "p")) {
                Calls.check(k - from < 60, "lines " + (from + 1) + " to " + (k + 1) + " are a long method");
            }
            Calls.check(line.length() <= 130, "line " + (k + 1) + " is long");
        }
    }
}
