import java.io.IOException;
import java.lang.reflect.Method;
import java.nio.file.Files;
import java.nio.file.Path;
import java.util.regex.Matcher;
import java.util.regex.Pattern;

/** Each clause of the document's promises and terms is held by a test, and each test holds words that stand there. */
public final class SentencesTest {
    private static final Class<?>[] TESTS = {DeskBoundariesTest.class, WritingBoundariesTest.class,
        QuestionBoundariesTest.class, WhatIfBoundariesTest.class, TextBoundariesTest.class,
        KeepingBoundariesTest.class};
    private static final Pattern CLAUSE = Pattern.compile("(?:[^;.\n]|[.;](?! |\n))+");
    /** Headings, and the rows that tell where a call stands in the interface. */
    private static final Pattern NO_CLAUSE =
            Pattern.compile("#.*|CONVENTIONS|Plates, writers|Ahead of the calls.*|```.*");

    private static int wrong = 0, clauses = 0;

    private static String section(String document, String heading) {
        int from = document.indexOf("\n" + heading), to = from < 0 ? -1 : document.indexOf("\n## ", from + 1);
        return from < 0 ? "" : document.substring(from, to < 0 ? document.length() : to);
    }

    /** Marks the places of a text where a quote stands. */
    private static boolean mark(boolean[] quoted, String text, String quote) {
        boolean found = false;
        for (int at = text.indexOf(quote); at >= 0; at = text.indexOf(quote, at + 1)) {
            found = true;
            for (int i = at; i < at + quote.length(); i++) quoted[i] = true;
        }
        return found;
    }

    private static void complain(String what) {
        wrong++;
        System.out.println(what);
    }

    private static void everyClauseIsQuoted(String where, String text, boolean[] quoted) {
        Matcher matcher = CLAUSE.matcher(text);
        while (matcher.find()) {
            String clause = matcher.group().trim();
            if (clause.length() < 3 || NO_CLAUSE.matcher(clause).matches()) continue;
            clauses++;
            boolean held = false;
            for (int i = matcher.start(); i < matcher.end(); i++) held |= quoted[i];
            if (!held) complain(where + ": no test holds \"" + clause + "\"");
        }
    }

    public static void main(String[] args) throws IOException {
        String document = Files.readString(Path.of("../shared/DOC.md"));
        String terms = section(document, "## Terms");
        boolean[] ofTerms = new boolean[terms.length()];
        for (int promise = 1; promise <= 28; promise++) {
            String text = section(document, "## Promise " + promise + ":");
            boolean[] quoted = new boolean[text.length()];
            for (Class<?> tests : TESTS)
                for (Method test : Checks.testsOf(tests)) {
                    Boundary boundary = test.getAnnotation(Boundary.class);
                    if (boundary.of() != promise) continue;
                    for (String says : boundary.says()) {
                        boolean inPromise = mark(quoted, text, says), inTerms = mark(ofTerms, terms, says);
                        if (!inPromise && !inTerms)
                            complain(test.getName() + ": nothing in promise " + promise + " says \"" + says + "\"");
                    }
                }
            everyClauseIsQuoted("promise " + promise, text, quoted);
        }
        everyClauseIsQuoted("terms", terms, ofTerms);
        System.out.println(clauses + " clauses, " + wrong + " faults");
        if (wrong != 0 || clauses == 0) System.exit(1);
    }
}
