import java.io.IOException;
import java.nio.file.Files;
import java.nio.file.Path;
import java.util.ArrayList;
import java.util.HashMap;
import java.util.List;
import java.util.Map;
import java.util.Set;
import java.util.TreeMap;

/**
 * Tests that are told as scripts, each on a new object, each for one sentence of the document.
 *
 * <p>A script is a row of calls with " | " between them: the name, the arguments, and what is due: "= 5", or "!Index",
 * "!Argument", "!State" for an exception. A call without a due answer must not throw. "3* pass 1 & teach 0 2" makes
 * both calls three times; "type day;day" appends each sign; "line 0 = cornet:-,.." looks at the whole line-up as a text;
 * "digest = @a" keeps the answer under the name a, and another "digest = @a" wants the same one. Of the numbers, NONE,
 * MIN and MAX may be told by their names.
 *
 * <p>Beside what the script says, each answer must be the Model's, and each call that is refused or that only looks must
 * leave the whole state as it was: an object without that call must answer the same behind it, also when its saved
 * states are undone one by one, when its snapshot is restored, and when a march is tried. No object gets more than 512
 * calls.
 */
final class Edges {
    private static final int MOST_CALLS = 512;
    private static final Set<String> LOOKS = Set.of("firstError", "told", "pupilOf", "instrumentOf", "loan", "part",
        "count", "noLoan", "noLesson", "shortOf", "most", "bestMarch", "helps", "played", "digest");
    private static final Map<String, String> EXCEPTIONS = Map.of("Index", "IndexOutOfBoundsException",
        "Argument", "IllegalArgumentException", "State", "IllegalStateException");

    /** One call; due is empty if any answer but an exception will do. */
    private record Step(String text, String name, int a, int b, int d, String due) {
    }

    private final Map<Integer, Integer> testsOf = new TreeMap<>();
    private final boolean tellsNames;
    private final String document;
    private int promise = 0;
    private String sentence = "";
    private String test = "";
    private int looks = 0;
    private int wrong = 0;

    Edges(Path documentPath, boolean tellsNames) throws IOException {
        this.document = Files.isReadable(documentPath) ? oneSpaced(Files.readString(documentPath)) : "";
        this.tellsNames = tellsNames;
    }

    private static String oneSpaced(String text) {
        return text.replaceAll("\\s+", " ");
    }

    // ---- what the tests say

    /** The tests that follow hold this sentence of the document for this promise. */
    void at(int newPromise, String newSentence) {
        promise = newPromise;
        sentence = newSentence;
        test = "";
        look(document.isEmpty() || document.contains(oneSpaced(newSentence)), "the sentence stands in the document");
    }

    /** One test; what says which case of the sentence it is. */
    void is(String what, String script) {
        begin(what);
        run(script);
    }

    /** A test for each of the values, which stand in the script as "?". */
    void each(String what, String script, String values) {
        for (String value : values.split(" ")) {
            is(value + ": " + what, script.replace("?", value));
        }
    }

    /** A test without a script. */
    void due(String what, long got, long want) {
        begin(what);
        look(got == want, "answered " + got + ", due is " + want);
    }

    /** Tells how many tests there were, and ends with exit code 1 if one failed or a promise has none. */
    void end(String name, int promises) {
        int tests = 0;
        sentence = "";
        test = "at the end";
        for (promise = 1; promise <= promises; promise++) {
            look(testsOf.getOrDefault(promise, 0) > 0, "has no test");
            tests += testsOf.getOrDefault(promise, 0);
        }
        System.out.println(name + ": " + tests + " tests, " + looks + " looks, " + wrong + " wrong");
        if (wrong != 0) {
            System.exit(1);
        }
    }

    private void begin(String what) {
        test = what;
        testsOf.merge(promise, 1, Integer::sum);
        if (tellsNames) {
            System.out.println(place());
        }
    }

    private String place() {
        return "Promise " + promise + ", \"" + sentence + "\": " + test;
    }

    private void look(boolean isRight, String message) {
        looks++;
        if (!isRight) {
            wrong++;
            if (wrong <= 50) {
                System.out.println(place() + ": " + message);
            }
        }
    }

    // ---- reading a script

    private static List<Step> parse(String script) {
        List<Step> steps = new ArrayList<>();
        for (String group : script.split(" \\| ")) {
            int times = 1;
            String rest = group.trim();
            if (rest.matches("\\d+\\* .*")) {
                times = Integer.parseInt(rest.substring(0, rest.indexOf('*')));
                rest = rest.substring(rest.indexOf('*') + 1);
            }
            for (int k = 0; k < times; k++) {
                for (String one : rest.split(" & ")) {
                    addSteps(steps, one.trim());
                }
            }
        }
        return steps;
    }

    private static void addSteps(List<Step> steps, String one) {
        if (one.startsWith("type ")) {
            for (char sign : one.substring(5).toCharArray()) {
                steps.add(new Step(one, "append", sign, 0, 0, ""));
            }
        } else if (one.startsWith("line ")) {
            int march = Integer.parseInt(one.substring(5, 6));
            String text = one.substring(one.indexOf("= ") + 2);
            for (int k = 0; k < text.length(); k++) {
                steps.add(new Step(one, "told", march, k, 0, String.valueOf((int) text.charAt(k))));
            }
            steps.add(new Step(one, "told", march, text.length(), 0, "-1"));
        } else if (!one.isEmpty()) {
            steps.add(oneStep(one));
        }
    }

    private static Step oneStep(String one) {
        String[] words = one.split(" ");
        int[] arguments = new int[3];
        int given = 0;
        String due = "";
        for (int k = 1; k < words.length; k++) {
            if (words[k].equals("=")) {
                due = dueOf(words[0], words[k + 1]);
                break;
            } else if (words[k].startsWith("!")) {
                due = "throws." + EXCEPTIONS.get(words[k].substring(1));
            } else {
                arguments[given] = (int) number(words[k]);
                given++;
            }
        }
        return new Step(one, words[0], arguments[0], arguments[1], arguments[2], due);
    }

    private static String dueOf(String name, String word) {
        if (word.startsWith("@")) {
            return word;
        }
        if (name.equals("played")) {
            return String.valueOf(Double.doubleToLongBits(Double.parseDouble(word)));
        }
        return String.valueOf(number(word));
    }

    private static long number(String word) {
        switch (word) {
            case "NONE":
                return -1;
            case "MIN":
                return Integer.MIN_VALUE;
            case "MAX":
                return Integer.MAX_VALUE;
            default:
                return Long.parseLong(word);
        }
    }

    // ---- running a script

    private void run(String script) {
        BandCornets x = new BandCornets();
        Model model = new Model();
        Map<String, String> kept = new HashMap<>();
        List<Step> changes = new ArrayList<>();
        String stateThen = null;
        int calls = 0;
        for (Step s : parse(script)) {
            String got = answer(x, s);
            calls++;
            check(s, got, kept);
            String models = Calls.answer(() -> model.call(s.name(), s.a(), s.b(), s.d()));
            look(got.equals(models), "'" + s.text() + "' answered " + got + ", the model's is " + models);
            if (got.startsWith("throws") || LOOKS.contains(s.name())) {
                stateThen = stateThen == null ? stateBehind(changes, null) : stateThen;
                look(stateThen.equals(stateBehind(changes, s)), "'" + s.text() + "' changes something");
            } else {
                changes.add(s);
                stateThen = null;
            }
        }
        look(calls <= MOST_CALLS, "more than 512 calls");
    }

    private void check(Step s, String got, Map<String, String> kept) {
        String due = s.due();
        if (due.startsWith("@")) {
            due = kept.computeIfAbsent(due, name -> got);
        }
        if (due.isEmpty()) {
            look(!got.startsWith("throws"), "'" + s.text() + "' answered " + got);
        } else {
            look(got.equals(due), "'" + s.text() + "' answered " + got + ", due is " + due);
        }
    }

    private static String answer(BandCornets x, Step s) {
        return Calls.answer(() -> Calls.callOf(x, s.name(), s.a(), s.b(), s.d()));
    }

    /** All that can be told from outside of the state behind these calls and, if there is one, one call more. */
    private static String stateBehind(List<Step> changes, Step more) {
        StringBuilder told = new StringBuilder();
        tell(told, changes, more, "digest", "undo", "digest", "undo", "digest", "undo", "digest", "undo", "digest", "undo",
            "digest", "undo", "digest", "undo", "restore", "digest");
        tell(told, changes, more, "march", "digest");
        tell(told, changes, more, "work", "digest");
        return told.toString();
    }

    private static void tell(StringBuilder told, List<Step> changes, Step more, String... names) {
        BandCornets x = new BandCornets();
        for (Step s : changes) {
            answer(x, s);
        }
        if (more != null) {
            answer(x, more);
        }
        // The number of calls is that of the object with the one more, so that both are asked the same.
        int calls = changes.size() + 1;
        for (String name : names) {
            if (calls < MOST_CALLS) {
                told.append(answer(x, new Step(name, name, 0, 0, 0, ""))).append(' ');
            }
            calls++;
        }
    }
}
