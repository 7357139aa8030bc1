import java.io.IOException;
import java.nio.file.Files;
import java.nio.file.Path;
import java.util.BitSet;
import java.util.Map;
import java.util.TreeMap;
import java.util.regex.Matcher;
import java.util.regex.Pattern;

/**
 * Tests by the sentences of the document: each names the one that it asks. At the end every part of 'Terms'
 * ("0" to "8") and of the promises ("P1" to "P53") must have been named by a test that asked something.
 */
final class Edges {
    private static final Path DOCUMENT = Path.of("../shared/DOC.md");
    private static final int PROMISES = 53;

    private final Due due = new Due("EdgesTest");
    private final Map<String, String> text = new TreeMap<>();
    private final Map<String, BitSet> named = new TreeMap<>();
    private String sentence = "";
    private int sentences = 0;
    private int answers = 1;

    Edges() {
        if (!Files.isReadable(DOCUMENT)) {
            System.out.println("EdgesTest: there is no " + DOCUMENT + ", so what the sentences are is not looked at");
            return;
        }
        try {
            split(Files.readString(DOCUMENT));
        } catch (IOException e) {
            throw new IllegalStateException(e);
        }
    }

    private void split(String document) {
        String terms = document.substring(document.indexOf("## Terms") + 8, document.indexOf("Ahead of the calls"));
        String[] parts = terms.replace("```text", " ").replace("```", " ").split("======== \\d ");
        for (int i = 0; i < parts.length; i++) {
            put("" + i, parts[i]);
        }
        Matcher m = Pattern.compile("## Promise (\\d+): [^\\n]*\\n\\n`[^`]*`: ([^\\n]*)").matcher(document);
        while (m.find()) {
            put("P" + m.group(1), m.group(2));
        }
        due.is("sections of Terms, and promises", text.size(), 9 + PROMISES);
    }

    private void put(String place, String words) {
        text.put(place, words.replaceAll("\\s+", " ").trim());
        named.put(place, new BitSet());
    }

    /** What is asked from here on is what the document says there, with these words. */
    void says(String place, String words) {
        noteEmpty();
        sentence = place + ": " + words;
        sentences++;
        answers = 0;
        if (text.isEmpty()) {
            return;
        }
        String all = text.getOrDefault(place, "");
        int at = all.indexOf(words);
        due.is("the document has once [" + sentence + "]", at >= 0 && all.indexOf(words, at + 1) < 0 ? 1 : 0, 1);
        if (at >= 0) {
            named.get(place).set(at, at + words.length());
        }
    }

    void is(String call, long got, long want) {
        answers++;
        due.is("[" + sentence + "] " + call, got, want);
    }

    void bad(String call, long got) {
        is(call, got, HalfBoats.BAD);
    }

    void full(String call, long got) {
        is(call, got, HalfBoats.FULL);
    }

    void none(String call, long got) {
        is(call, got, HalfBoats.NONE);
    }

    void state(String call, long got) {
        is(call, got, HalfBoats.STATE);
    }

    private void noteEmpty() {
        if (answers == 0) {
            due.is("answers asked of [" + sentence + "]", 0, 1);
        }
    }

    void end() {
        noteEmpty();
        for (String place : text.keySet()) {
            String all = text.get(place);
            BitSet has = named.get(place);
            for (int i = has.nextClearBit(0); i < all.length(); i = has.nextClearBit(i)) {
                int end = has.nextSetBit(i) < 0 ? all.length() : has.nextSetBit(i);
                // What stands between two sentences needs no test.
                String left = all.substring(i, end).replaceAll("[ .;:,()|]", "");
                if (!left.isEmpty()) {
                    due.is("no test names, in " + place + ": " + all.substring(i, end), 0, 1);
                }
                i = end;
            }
        }
        System.out.println("EdgesTest: " + sentences + " sentences");
        due.end();
    }
}
