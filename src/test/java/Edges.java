import java.io.IOException;
import java.nio.file.Files;
import java.nio.file.Path;
import java.util.ArrayList;
import java.util.HashSet;
import java.util.List;
import java.util.Set;
import java.util.regex.Matcher;
import java.util.regex.Pattern;

/** Runs at the edges, each bound to the words of the document that name them. */
final class Edges {
    /** The promise of a sentence that stands under "Terms". */
    static final int TERMS = 0;
    private static final Pattern REFUSALS = Pattern.compile("\\b(UNKNOWN|OUTSIDE|STATE|FULL|NULL|CAST|INDEX|SIZE)\\b");

    private record Bound(int promise, String words) {
    }

    private static final List<Bound> BOUND = new ArrayList<>();

    private Edges() {
    }

    static void of(int promise, String words, String... lines) {
        BOUND.add(new Bound(promise, words));
        Calls.run((promise == TERMS ? "Terms" : promise) + ", \"" + words + "\"", lines);
    }

    /** A mark at the last gap of a page of two words, by which it is easy to see what page a place has. */
    static String on(int page, int kind, int head, int number) {
        return "mark(" + (2 * page + 2) + ", " + kind + ", " + head + ", NONE, NONE, 0) = " + number;
    }

    static String noteOn(int page, int note, int head, int number) {
        return "mark(" + (2 * page + 2) + ", 4, " + head + ", NONE, NONE, " + note + ") = " + number;
    }

    static String point(int gap, int head, int number) {
        return "mark(" + gap + ", 0, " + head + ", NONE, NONE, 0) = " + number;
    }

    static String[] join(String[] first, String... then) {
        String[] all = java.util.Arrays.copyOf(first, first.length + then.length);
        System.arraycopy(then, 0, all, first.length, then.length);
        return all;
    }

    /** Ends the test of the promises from .. to: by the document (the second argument), where it is at hand. */
    static void end(String[] args, int from, int to) throws IOException {
        if (args.length > 1 && Files.exists(Path.of(args[1]))) {
            String document = Files.readString(Path.of(args[1])).replaceAll("\\s+", " ");
            for (Bound bound : BOUND) {
                boolean stands = section(document, bound.promise).contains(bound.words);
                Calls.check(stands, "the document does not say, of " + bound.promise + ": " + bound.words);
            }
            for (int promise = from; promise <= to; promise++) {
                isLookedAt(document, promise);
            }
        }
        Calls.end();
    }

    private static String section(String document, int promise) {
        int start = document.indexOf(promise == TERMS ? "## Terms" : "## Promise " + promise + ":");
        int end = document.indexOf("## ", start + 3);
        return document.substring(start, end);
    }

    /** A promise has a run, and so has each refusal that it names. */
    private static void isLookedAt(String document, int promise) {
        String section = section(document, promise);
        Calls.check(BOUND.stream().anyMatch(b -> b.promise == promise), "no run is bound to promise " + promise);
        String call = section.substring(section.indexOf(": ") + 2, section.indexOf(" `"));
        Set<String> named = new HashSet<>();
        for (Matcher matcher = REFUSALS.matcher(section.replace("THE INDEX", "")); promise != TERMS && matcher.find();) {
            named.add(matcher.group());
        }
        for (String due : named) {
            Calls.check(Calls.hasRefused(call, due), "no run looks at " + call + "() that answers " + due);
        }
    }
}
