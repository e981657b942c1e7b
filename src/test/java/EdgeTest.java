import java.io.IOException;
import java.nio.file.Files;
import java.nio.file.Path;
import java.util.ArrayList;
import java.util.List;
import java.util.TreeMap;
import java.util.Map;

/**
 * A test of its own for each sentence of the document that names a boundary: too small, too large, empty, full, a
 * wrap-around, a refused call. Each test quotes its sentence; here the quotes are held against the document itself, so
 * that none is made up and no sentence is left out.
 */
public final class EdgeTest {
    private static final Path DOCUMENT = Path.of("../shared/DOC.md");
    private static final int PROMISES = 39;
    private static int wrong = 0;

    private static void check(boolean holds, String what) {
        if (!holds) {
            wrong++;
            System.out.println(what);
        }
    }

    private static String plain(String s) {
        return s.replaceAll("```(text|java)?|={8} [12] ", " ").replaceAll("\\s+", " ").trim();
    }

    /** The words of each promise, by its number, without its heading and its call; those of the terms by 0. */
    private static Map<Integer, String> sections(String document) {
        Map<Integer, String> found = new TreeMap<>();
        StringBuilder terms = new StringBuilder();
        for (String part : document.split("(?m)^## ")) {
            String heading = part.lines().findFirst().orElse("");
            String words = part.substring(heading.length());
            if (heading.startsWith("Promise ")) {
                int number = Integer.parseInt(heading.substring(8, heading.indexOf(':')));
                found.put(number, plain(words.replaceFirst("`[^`]*`: ", "")));
            } else if (heading.equals("What it is")) {
                // Its first paragraph tells what the rest of the document tells again.
                terms.append(words.substring(words.indexOf("An object is used")));
            } else if (heading.equals("Terms")) {
                terms.append(words.replaceAll("(?m)^Ahead of the calls .*$", ""));
            }
        }
        found.put(Edges.TERMS, plain(terms.toString()));
        return found;
    }

    /** Sentences end by a point behind a word or a bracket; that of "a .. z" is none. */
    private static List<String> sentences(String words) {
        List<String> all = new ArrayList<>();
        for (String s : words.split("(?<=[A-Za-z0-9)]\\.) ")) if (!s.isBlank()) all.add(s);
        return all;
    }

    private static boolean isQuoted(int promise, String sentence) {
        for (Edges.Quote q : Edges.quotes()) {
            String words = plain(q.words());
            if (q.promise() == promise && (sentence.contains(words) || words.contains(sentence))) return true;
        }
        return false;
    }

    private static void holdAgainst(Map<Integer, String> sections) {
        check(sections.size() == PROMISES + 1, "the document has " + (sections.size() - 1) + " promises");
        for (Edges.Quote q : Edges.quotes()) {
            check(sections.getOrDefault(q.promise(), "").contains(plain(q.words())), "not in the document, promise " + q.promise() + ": " + q.words());
        }
        for (Map.Entry<Integer, String> e : sections.entrySet()) {
            for (String s : sentences(e.getValue())) check(isQuoted(e.getKey(), s), "no test quotes, promise " + e.getKey() + ": " + s);
        }
    }

    public static void main(String[] args) throws IOException {
        for (Edges group : List.of(new TermEdges(), new TextEdges(), new ChangeEdges(), new BestEdges(), new MoodEdges(), new SheetEdges())) {
            group.run();
            group.closeQuote();
        }
        holdAgainst(sections(Files.readString(DOCUMENT)));
        wrong += Edges.wrong();
        System.out.println(wrong == 0 ? "the edges of " + Edges.quotes().size() + " sentences hold" : wrong + " faults at the edges");
        if (wrong != 0) System.exit(1);
    }
}
