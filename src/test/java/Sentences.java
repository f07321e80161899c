import java.io.IOException;
import java.nio.file.Files;
import java.nio.file.Path;
import java.util.ArrayList;
import java.util.BitSet;
import java.util.LinkedHashMap;
import java.util.List;
import java.util.Map;
import java.util.function.Consumer;

/** Runs tests of single sentences, and looks whether each word of the document stands beside one. */
final class Sentences {
    private static final Path DOCUMENT = Path.of("../shared/DOC.md");

    private final Checks checks;
    private final Map<String, Section> sections = new LinkedHashMap<>();

    Sentences(Checks checks) throws IOException {
        this.checks = checks;
        Section section = null;
        for (String line : Files.readAllLines(DOCUMENT)) {
            if (line.startsWith("#")) {
                section = sectionUnder(line.replaceFirst("^#+ *", "").replaceFirst("^(Promise \\d+):.*", "$1"), line);
            } else if (section != null) {
                section.add(line);
            }
        }
    }

    private Section sectionUnder(String title, String heading) {
        boolean isOfTerms = heading.startsWith("### ") || title.equals("Terms") || title.equals("What it is");
        if (!isOfTerms && !title.startsWith("Promise ")) {
            return null;
        }
        Section section = new Section();
        sections.put(title, section);
        return section;
    }

    /** A sentence, or a part of one, of a promise, and the test of it. */
    void promise(int number, String words, Consumer<Checks> test) {
        run("Promise " + number, number, words, test);
    }

    /** A sentence, or a part of one, of the terms, with the number of a promise that shows it, and its test. */
    void term(String title, int number, String words, Consumer<Checks> test) {
        run(title, number, words, test);
    }

    /** Words that tell nothing that could be broken by what a call answers. */
    void asksNoTest(String title, String words) {
        checks.beside(title);
        checks.same("\"" + words + "\" stands in the document", true, covers(title, words));
    }

    private void run(String title, int number, String words, Consumer<Checks> test) {
        checks.beside(number + " \"" + words + "\"");
        checks.same("stands in the document", true, covers(title, words));
        int before = checks.made();
        Object end = Checks.answer(() -> {
            test.accept(checks);
            return "through";
        });
        checks.same("its test", "through", end);
        checks.same("its test looks at something", true, checks.made() > before + 1);
    }

    private boolean covers(String title, String words) {
        Section section = sections.get(title);
        return section != null && section.covers(words);
    }

    /** Each word of the terms and of the promises stands beside a test. */
    void lookForOthers() {
        checks.beside("the document");
        checks.same("its promises", 45L, sections.keySet().stream().filter(title -> title.startsWith("Promise ")).count());
        for (Map.Entry<String, Section> entry : sections.entrySet()) {
            checks.same("what has no test in \"" + entry.getKey() + "\"", List.of(), entry.getValue().others());
        }
    }

    /** The text under a heading, in one line, and which characters of it stand beside a test. */
    private static final class Section {
        private final StringBuilder text = new StringBuilder();
        private final BitSet covered = new BitSet();

        /** The face that a promise begins with is looked at by FaceTest. */
        void add(String line) {
            String rest = text.length() == 0 ? line.replaceFirst("^`[^`]*\\)[^`]*`: ", "") : line;
            if (!rest.isEmpty()) {
                text.append(text.length() > 0 ? " " : "").append(rest);
            }
        }

        boolean covers(String words) {
            int start = text.indexOf(words);
            if (start < 0) {
                return false;
            }
            covered.set(start, start + words.length());
            return true;
        }

        List<String> others() {
            List<String> others = new ArrayList<>();
            for (int start = covered.nextClearBit(0); start < text.length();) {
                int next = covered.nextSetBit(start);
                int end = next < 0 ? text.length() : next;
                String words = text.substring(start, end).strip();
                if (words.chars().anyMatch(Character::isLetterOrDigit)) {
                    others.add(words);
                }
                start = covered.nextClearBit(end);
            }
            return others;
        }
    }
}
