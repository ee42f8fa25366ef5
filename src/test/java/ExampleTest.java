import java.io.IOException;
import java.nio.file.Files;
import java.nio.file.Path;
import java.util.ArrayList;
import java.util.List;

/** The example of README.md (beside the class's own tree, the first argument) stands here word for word, and holds. */
public final class ExampleTest {
    private static final String BEGINS = "        // the example begins";
    private static final String ENDS = "        // the example ends";

    public static void main(String[] args) throws IOException {
        Path source = Path.of(args.length > 0 ? args[0] : "src/main/java/BackIndex.java").toAbsolutePath().normalize();
        Path root = source.getParent().getParent().getParent().getParent();
        List<String> here = Files.readAllLines(root.resolve("src/test/java/ExampleTest.java"));
        List<String> example = new ArrayList<>();
        for (String line : here.subList(here.indexOf(BEGINS) + 1, here.indexOf(ENDS))) {
            example.add(line.isEmpty() ? line : line.substring(8));
        }
        List<String> readme = Files.readAllLines(root.resolve("README.md"));
        int from = readme.indexOf("```java") + 1;
        List<String> told = readme.subList(from, from + readme.subList(from, readme.size()).indexOf("```"));
        Calls.check(!told.isEmpty() && told.equals(example), "README.md's example is not the one that is tested");
        example();
        Calls.end();
    }

    private static void example() {
        // the example begins
        BackIndex book = new BackIndex();
        for (int i = 0; i < 20; i++) {
            book.put(i, i);                                        // 20 words, ten on a page
        }
        int none = BackIndex.NONE;
        book.name(0x746561, 3);                                    // THE NAME is "tea", byte by byte
        int tea = book.head();                                     // 0
        book.unname();
        book.name(0x63686169, 4);                                  // now it is "chai"
        int chai = book.head();                                    // 1
        book.mark(5, 0, tea, none, none, 0);                       // a POINT behind word 4, on page 0
        book.mark(15, 3, tea, none, none, 0);                      // a MAIN on page 1
        book.see(15, chai, tea, false);                            // chai, see tea
        int entries = book.build(0, 0, 0);                         // by letters, nothing melted, no MAINS ahead: 2
        int found = book.find(tea, none, none);                    // entry 1: chai is ahead of tea
        int places = book.entry(found, 3);                         // 2
        int page = book.place(found, 1, 1);                        // the first page of its second place: 1
        int led = book.sees(0, 0, 2);                              // chai leads to tea, which has places: 0, GOOD
        int refused = book.mark(21, 0, tea, none, none, 0);        // there is no such gap: UNKNOWN
        int faulty = book.move(0, -1, 0);                          // SIZE, 4: -14
        int fault = book.fault();                                  // 4
        int left = book.undo();                                    // the see is undone; 24 more acts can be
        // the example ends
        Calls.check(tea == 0 && chai == 1 && entries == 2 && found == 1 && places == 2 && page == 1 && led == 0,
                "the example's index is not as told");
        Calls.check(refused == BackIndex.UNKNOWN && faulty == -14 && fault == 4 && left == 24, "the example's end is not as told");
    }
}
