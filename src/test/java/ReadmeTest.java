import java.io.File;
import java.io.IOException;
import java.lang.reflect.Method;
import java.lang.reflect.Modifier;
import java.util.HashSet;
import java.util.List;
import java.util.Set;
import java.util.StringJoiner;
import java.util.TreeSet;
import java.util.regex.Matcher;
import java.util.regex.Pattern;

/** README.md is true: each call that it shows answers what it says, and no call of the face is left out. */
public final class ReadmeTest {
    private static final int PROMISED_CALLS = 512;
    private static final String[] ASKED_BY_WHAT = {"look", "of", "count"};

    private static final Pattern SOME_CALL = Pattern.compile("\\bbook\\s*\\.|new GuaranteeBook");
    private static final Pattern FACE_ROW = Pattern.compile("\\| `([^`(]+)\\(([^`)]*)\\)` \\| [^|]+ \\| ([^|]+) \\|");
    private static final Pattern EXCEPTION = Pattern.compile("\\w+Exception");
    private static final Pattern WHAT_ROW = Pattern.compile("\\| (\\d+) \\|(.*)\\|(.*)\\|(.*)\\|");
    private static final Pattern TEST_ROW = Pattern.compile("\\| `(\\w+Test)` \\| .+ \\|");

    private static Readme readme;

    public static void main(String[] args) throws IOException {
        readme = new Readme();
        Check.runAll(ReadmeTest.class);
    }

    static void eachCallAnswersWhatStandsBehindIt() {
        for (List<String> block : readme.blocks) {
            GuaranteeBook book = null;
            int calls = 0;
            for (String line : block) {
                Shown shown = Shown.in(line);
                if (line.equals(Shown.MAKING)) {
                    book = new GuaranteeBook();
                } else if (book == null || shown == null) {
                    Check.due(line, "a call of a book, with its answer", "something else");
                } else {
                    answersAsShown(book, shown);
                    calls += shown.times();
                }
            }
            Check.due("a block of at most " + PROMISED_CALLS + " calls", true, calls <= PROMISED_CALLS);
        }
    }

    private static void answersAsShown(GuaranteeBook book, Shown shown) {
        for (int turn = 1; turn <= shown.times(); turn++) {
            Check.due(shown.line(), shown.dueAnswer(turn), shown.answerOf(book));
        }
    }

    static void eachCallOfTheFaceIsShownWithEachExceptionOfIt() {
        Set<String> answers = new TreeSet<>();
        for (Shown shown : readme.shown()) {
            boolean thrown = shown.answer().startsWith("throws ");
            answers.add(shown.name() + (thrown ? " " + shown.answer() : " answers"));
        }
        for (Method method : face()) {
            Check.due(method + " is shown", true, answers.contains(method.getName() + " answers"));
            for (Class<?> type : method.getExceptionTypes()) {
                String throwing = method.getName() + " throws " + type.getSimpleName();
                Check.due(throwing + " is shown", true, answers.contains(throwing));
            }
        }
    }

    static void noCallStandsWhereNothingLooksAtIt() {
        for (String line : readme.elsewhere) {
            Check.due("a call in: " + line, false, SOME_CALL.matcher(line).find());
        }
    }

    static void theTableOfCallsIsTheFace() {
        Set<String> due = new TreeSet<>(Set.of("GuaranteeBook() throws nothing"));
        for (Method method : face()) {
            due.add(asRow(method));
        }
        Set<String> rows = new TreeSet<>();
        for (String line : readme.elsewhere) {
            Matcher row = FACE_ROW.matcher(line);
            if (row.matches()) {
                String types = row.group(2).replaceAll(" \\w+(, |$)", "$1");
                Check.due(line + " is new", true, rows.add(asRow(row.group(1), types, thrownIn(row.group(3)))));
            }
        }
        Check.due("the table of calls", due, rows);
    }

    private static String asRow(Method method) {
        StringJoiner types = new StringJoiner(", ");
        for (Class<?> type : method.getParameterTypes()) {
            types.add(type.getSimpleName());
        }
        StringJoiner thrown = new StringJoiner(", ");
        thrown.setEmptyValue("nothing");
        for (Class<?> type : method.getExceptionTypes()) {
            thrown.add(type.getSimpleName());
        }
        String named = method.getReturnType().getSimpleName() + " " + method.getName();
        return asRow(named, types.toString(), thrown.toString());
    }

    private static String asRow(String named, String types, String thrown) {
        return named + "(" + types + ") throws " + thrown;
    }

    /** The exceptions that a cell names, or the whole cell if it names none. */
    private static String thrownIn(String cell) {
        StringJoiner thrown = new StringJoiner(", ");
        thrown.setEmptyValue(cell);
        Matcher m = EXCEPTION.matcher(cell);
        while (m.find()) {
            thrown.add(m.group());
        }
        return thrown.toString();
    }

    static void eachWhatOfTheTableIsShown() {
        Set<String> whats = new TreeSet<>();
        for (Shown shown : readme.shown()) {
            whats.add(shown.name() + " " + shown.arguments().get(shown.arguments().size() - 1));
        }
        for (String line : readme.elsewhere) {
            Matcher row = WHAT_ROW.matcher(line);
            for (int i = 0; row.matches() && i < ASKED_BY_WHAT.length; i++) {
                String asked = ASKED_BY_WHAT[i] + " " + row.group(1);
                if (!row.group(i + 2).isBlank()) {
                    Check.due(asked + " is shown", true, whats.contains(asked));
                }
            }
        }
    }

    static void theConstantIsAsWritten() {
        String due = "- `GuaranteeBook.NONE` is " + GuaranteeBook.NONE + ".";
        Check.due(due, true, readme.elsewhere.contains(due));
    }

    static void theTableOfTestsNamesEachTest() {
        Set<String> due = new TreeSet<>();
        for (String file : new File("src/test/java").list()) {
            if (file.endsWith("Test.java")) {
                due.add(file.replace(".java", ""));
            }
        }
        Set<String> rows = new TreeSet<>();
        for (String line : readme.elsewhere) {
            Matcher row = TEST_ROW.matcher(line);
            if (row.matches()) {
                rows.add(row.group(1));
            }
        }
        Check.due("the table of tests", due, rows);
    }

    private static Set<Method> face() {
        Set<Method> face = new HashSet<>();
        for (Method method : GuaranteeBook.class.getDeclaredMethods()) {
            if (Modifier.isPublic(method.getModifiers())) {
                face.add(method);
            }
        }
        return face;
    }
}
