import java.io.IOException;
import java.lang.reflect.Method;
import java.nio.charset.StandardCharsets;
import java.nio.file.Files;
import java.nio.file.Path;
import java.util.ArrayList;
import java.util.LinkedHashMap;
import java.util.List;
import java.util.Map;
import java.util.TreeSet;

/**
 * Each sentence of the document either has a test that stands for it (see Sentence), or stands here among those that
 * name no boundary case. So a sentence that changes, or comes, is not overlooked.
 */
public final class SentencesTest {
    private static final Due due = new Due("SentencesTest");

    /** Whole sentences; the tests of the promises look at what they say of ordinary cases. */
    private static final List<String> NO_BOUNDARY = List.of(
            "What it is: A backup store with deduplication.",
            "Terms: Files are saved version by version; each is cut into chunks where a rolling sum says so, and chunks "
                    + "that are stored already are not stored again.",
            "Terms: Chunks lie in containers, recently used containers are cached, so that lookups seldom need the index; "
                    + "versions are kept as lists of chunks, in full or as a difference to the version before; what no kept "
                    + "version needs any more is garbage, which is collected container by container.",
            "Terms: Restored bytes are told from the chunks, and once more from plain copies.",
            "Containers and cache: To save a version, its chunks are gone through in their order.",
            "Differences: Its entries are the numbers of its chunks in their order.",
            "Promise 2: Adds bytes to the draft.",
            "Promise 2: Returns the length of the draft then.",
            "Promise 3: Adds bytes of a kept version to the draft.",
            "Promise 3: Returns the length of the draft then.",
            "Promise 4: Puts a byte into the draft.",
            "Promise 4: Returns the length of the draft then.",
            "Promise 5: Takes bytes out of the draft.",
            "Promise 5: Returns the length of the draft then.",
            "Promise 8: Returns a byte of the draft.",
            "Promise 11: Forgets a version.",
            "Promise 12: Collects garbage.",
            "Promise 14: Tells whether a version is kept.",
            "Promise 14: Returns whether it is.",
            "Promise 15: Returns the latest kept version of a file.",
            "Promise 16: Returns the length of a version.",
            "Promise 17: Restores a byte of a version from its chunks.",
            "Promise 19: Returns how many chunks a version has.",
            "Promise 20: Returns a chunk of a version.",
            "Promise 20: Returns its number.",
            "Promise 21: Returns the base of a version.",
            "Promise 22: Returns the chain of a version.",
            "Promise 23: Returns what a version costs as it is kept.",
            "Promise 24: Tells whether a chunk is stored.",
            "Promise 24: Returns whether it is.",
            "Promise 26: Returns the length of a stored chunk.",
            "Promise 27: Returns the fingerprint of a stored chunk.",
            "Promise 27: Returns the fingerprint.",
            "Promise 28: Returns how often kept versions have a stored chunk.",
            "Promise 29: Returns the container of a stored chunk.",
            "Promise 29: Returns its number.",
            "Promise 32: Returns a container of the cache.");

    public static void main(String[] args) throws IOException, ReflectiveOperationException {
        Path root = Path.of(args.length > 0 ? args[0] : ".").toAbsolutePath().normalize();
        Map<String, List<String>> document = sentences(Files.readString(
                root.resolveSibling("shared").resolve("DOC.md"), StandardCharsets.UTF_8));
        TreeSet<String> covered = new TreeSet<>();
        for (Method test : Sentences.inAllTests(root)) {
            for (Sentence sentence : test.getAnnotationsByType(Sentence.class)) {
                boolean found = false;
                for (String text : document.getOrDefault(sentence.in(), List.of())) {
                    if (text.contains(sentence.says())) {
                        found = true;
                        covered.add(sentence.in() + ": " + text);
                    }
                }
                due.same(test.getName() + " stands for words of \"" + sentence.in() + "\"", found, true);
            }
        }
        due.same("promises", document.keySet().stream().filter(name -> name.startsWith("Promise ")).count(), 38);
        TreeSet<String> all = new TreeSet<>();
        for (Map.Entry<String, List<String>> section : document.entrySet()) {
            for (String text : section.getValue()) {
                String full = section.getKey() + ": " + text;
                all.add(full);
                due.same("a test stands for: " + full, covered.contains(full), !NO_BOUNDARY.contains(full));
            }
        }
        for (String text : NO_BOUNDARY) {
            due.same("the document says: " + text, all.contains(text), true);
        }
        due.end();
    }

    /** The document's sentences, by the headings under which they stand. */
    private static Map<String, List<String>> sentences(String document) {
        Map<String, List<String>> all = new LinkedHashMap<>();
        String heading = "";
        boolean code = false;
        for (String line : document.split("\n")) {
            if (line.startsWith("```")) {
                code = !code;
            } else if (line.startsWith("#")) {
                heading = line.replaceAll("^#+ ", "").replaceAll(":.*", "");
            } else if (!code && !line.isBlank() && !heading.equals("Not promised") && !line.startsWith("Ahead of")) {
                List<String> here = all.computeIfAbsent(heading, name -> new ArrayList<>());
                // a promise begins with its signature, which FaceTest looks at
                String text = line.replaceAll("^`[^`]*`: ", "").replaceAll("^- ", "");
                for (String sentence : text.split("(?<=\\.)\\s+(?=[A-Z])")) {
                    here.add(sentence);
                }
            }
        }
        return all;
    }
}
