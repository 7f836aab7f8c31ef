import java.util.Map;
import java.util.TreeMap;

/** Runs of up to 512 calls beside the Model; the calls come from a counter, so that each run is always the same. */
public final class ModelTest {
    private static final int RUNS = 600;
    private static final int CALLS = 450;
    private static final String[] LOOKS = {"pupilOf", "instrumentOf", "loan", "part", "count", "noLoan", "noLesson",
        "shortOf", "most", "bestMarch", "helps", "played", "told", "firstError"};

    private static final Checks c = new Checks();
    private static final Map<String, Integer> seen = new TreeMap<>();
    private static long seed = 1;

    public static void main(String[] args) {
        for (int run = 0; run < RUNS; run++) {
            seed = 77 + 7919L * run;
            run(run);
        }
        for (Map.Entry<String, Integer> e : seen.entrySet()) {
            if (args.length > 0) {
                System.out.println(e.getKey() + " " + e.getValue());
            }
        }
        enoughSeen();
        c.end("ModelTest");
    }

    private static int below(int bound) {
        seed = seed * 6364136223846793005L + 1442695040888963407L;
        return (int) ((seed >>> 33) % bound);
    }

    private static int from(int low, int high) {
        return low + below(high - low + 1);
    }

    /** A number of a range, now and then one beside it or far from it. */
    private static int near(int low, int high) {
        int r = below(60);
        if (r == 0) {
            return low - 1;
        }
        if (r == 1) {
            return high + 1;
        }
        if (r == 2) {
            return below(2) == 0 ? Integer.MIN_VALUE : Integer.MAX_VALUE;
        }
        return from(low, high);
    }

    private static void run(int number) {
        BandCornets x = new BandCornets();
        Model m = new Model();
        int style = number % 5;
        int calls = style == 4 ? fullBand(x, m, "run " + number) : 0;
        while (calls < CALLS) {
            calls += step(x, m, style, calls, "run " + number);
        }
        c.at("run " + number + ", at its end");
        c.due("digest", x.digest(), m.call("digest", 0, 0, 0));
    }

    /** Ten pupils who all have instruments of the kinds of one march, and lessons on some days. */
    private static int fullBand(BandCornets x, Model m, String run) {
        int first = from(0, 3);
        for (int k = 0; k < 10; k++) {
            check(x, m, run, "pupil", from(14, 30), 0, 0);
            check(x, m, run, "instrument", (first + below(2)) % 4, 0, 0);
            check(x, m, run, "lend", k, k, 0);
        }
        int days = from(0, 14);
        int taught = from(3, 10);
        for (int day = 0; day < days; day++) {
            for (int p = 0; p < taught; p++) {
                check(x, m, run, "teach", p, 2, 0);
            }
            check(x, m, run, "pass", 1, 0, 0);
        }
        for (int march = 0; march < 4; march++) {
            check(x, m, run, "shortOf", march, 0, 0);
            check(x, m, run, "most", march, 0, 0);
            check(x, m, run, "helps", march, from(0, 2), 0);
        }
        check(x, m, run, "bestMarch", 0, 0, 0);
        return 30 + days * (taught + 1) + 13;
    }

    /** Makes one call, or a text of calls; returns how many. */
    private static int step(BandCornets x, Model m, int style, int calls, String run) {
        String name;
        int a = 0;
        int b = 0;
        int d = 0;
        int r = below(100);
        if (calls < 24) {
            name = calls % 2 == 0 ? "pupil" : "instrument";
            a = calls % 2 == 0 ? (style == 0 ? near(5, 17) : near(20, 30)) : style == 1 ? near(0, 1) : near(0, 3);
            if (calls > 12 && style == 2) {
                name = "lend";
                a = near(0, 6);
                b = near(0, 6);
            }
        } else if (r < 12) {
            name = "lend";
            a = near(0, 9);
            b = near(0, 9);
        } else if (r < 14) {
            name = below(2) == 0 ? "back" : "mend";
            a = near(0, 9);
        } else if (r < 16) {
            name = below(2) == 0 ? "dent" : "pay";
            a = near(0, 9);
            b = name.equals("dent") ? (below(3) == 0 ? near(1, 9) : near(1, 2)) : near(1, 999);
        } else if (r < 17) {
            name = "set";
            a = near(0, 2);
            b = near(0, a == 0 ? 50 : a == 1 ? 200 : 99);
        } else if (r < 27) {
            name = "pass";
            a = below(4) == 0 ? near(1, 30) : near(1, 2);
        } else if (r < 32) {
            return lessons(x, m, style, run);
        } else if (r < 36) {
            return fall(x, m, run);
        } else if (r < 37 && style == 3) {
            return undoAll(x, m, run);
        } else if (r < 57) {
            name = "teach";
            a = near(0, 9);
            b = near(0, 2);
        } else if (r < 66) {
            if (x.count(4) == 0 && below(3) > 0) {
                name = "pass";
                a = 6 - x.count(3) % 7;
                check(x, m, run, name, a, 0, 0);
                check(x, m, run, "march", near(0, 3), 0, 0);
                return 3;
            }
            name = "march";
            a = near(0, 3);
        } else if (r < 72) {
            return text(x, m, run);
        } else if (r < 76) {
            name = below(style == 3 ? 2 : 6) == 0 ? "undo" : "digest";
        } else if (r < 78) {
            name = below(3) == 0 ? "restore" : below(2) == 0 ? "keep" : "digest";
        } else {
            name = LOOKS[below(LOOKS.length)];
            a = nearFirst(name);
            b = nearSecond(name);
            d = near(0, 3);
        }
        check(x, m, run, name, a, b, d);
        return 1;
    }

    private static int nearFirst(String name) {
        switch (name) {
            case "pupilOf": case "instrumentOf": case "noLoan": case "noLesson": case "loan":
                return near(0, 9);
            case "count":
                return near(0, 18);
            default:
                return near(0, 3);
        }
    }

    private static int nearSecond(String name) {
        switch (name) {
            case "pupilOf":
                return near(0, 6);
            case "instrumentOf":
                return near(0, 5);
            case "noLoan":
                return near(0, 9);
            case "noLesson": case "helps":
                return near(0, 2);
            case "told":
                return near(0, 40);
            default:
                return near(0, 3);
        }
    }

    /** A lesson for many pupils, on some days one behind the other. */
    private static int lessons(BandCornets x, Model m, int style, String run) {
        int calls = 0;
        int days = from(1, 3);
        int teacher = style == 0 ? near(0, 2) : 2;
        for (int day = 0; day < days; day++) {
            for (int p = 0; p < 8; p++) {
                check(x, m, run, "teach", p, teacher, 0);
                check(x, m, run, "noLesson", p, from(0, 2), 0);
            }
            check(x, m, run, "pass", 1, 0, 0);
            calls += 17;
        }
        return calls;
    }

    /** An instrument falls, comes back, and is perhaps mended and lent again. */
    private static int fall(BandCornets x, Model m, String run) {
        int i = from(0, 7);
        int p = from(0, 7);
        check(x, m, run, "dent", i, from(1, 5), 0);
        check(x, m, run, "back", i, 0, 0);
        check(x, m, run, "noLoan", i, p, 0);
        check(x, m, run, "pay", from(0, 7), from(1, 60), 0);
        if (below(3) > 0) {
            check(x, m, run, "mend", i, 0, 0);
        }
        check(x, m, run, "noLoan", i, p, 0);
        check(x, m, run, "lend", i, p, 0);
        check(x, m, run, "count", 14, 0, 0);
        return 8;
    }

    private static int undoAll(BandCornets x, Model m, String run) {
        for (int k = 0; k < 7; k++) {
            check(x, m, run, "undo", 0, 0, 0);
        }
        check(x, m, run, "digest", 0, 0, 0);
        return 8;
    }

    /** Writes works, sometimes with a wrong sign, looks for errors, and lets them be done. */
    private static int text(BandCornets x, Model m, String run) {
        StringBuilder s = new StringBuilder();
        boolean isLong = below(5) == 0;
        int parts = isLong ? from(5, 13) : from(1, 5);
        for (int k = 0; k < parts && s.length() < 43; k++) {
            s.append(k > 0 ? ";" : "");
            int w = isLong && below(5) > 0 ? 5 : below(6);
            s.append(w == 0 ? "lend" : w == 1 ? "back" : w == 2 ? "teach" : w == 3 ? "march" : w == 4 ? "mend" : "day");
            if (w < 5) {
                s.append(w == 3 ? from(0, 3) : below(3) == 0 ? from(0, 9) : from(0, 3));
            }
            if (w == 0 || w == 2) {
                s.append(w == 2 ? from(0, 2) : from(0, 9));
            }
        }
        if (below(4) == 0) {
            int at = below(s.length());
            s.setCharAt(at, below(2) == 0 ? (char) from(33, 126) : s.charAt(below(s.length())));
        }
        if (below(6) == 0) {
            s.setLength(below(s.length() + 1));
        }
        int calls = 0;
        for (int k = 0; k < s.length(); k++) {
            check(x, m, run, "append", s.charAt(k), 0, 0);
        }
        check(x, m, run, "firstError", 0, 0, 0);
        check(x, m, run, "work", 0, 0, 0);
        if (below(3) == 0) {
            check(x, m, run, "digest", 0, 0, 0);
            check(x, m, run, "clearBuffer", 0, 0, 0);
            calls += 2;
        }
        return calls + s.length() + 2;
    }

    private static void check(BandCornets x, Model m, String run, String name, int a, int b, int d) {
        String due = Calls.answer(() -> m.call(name, a, b, d));
        String got = Calls.answer(() -> Calls.callOf(x, name, a, b, d));
        String kind = due.startsWith("throws") || due.length() < 2 && !name.startsWith("count") ? due : "a number";
        seen.merge(name + " " + kind, 1, Integer::sum);
        c.at(run);
        c.due(name + "(" + a + ", " + b + ", " + d + ")", got, due);
    }

    /** The runs are worth something only if they come to the rare answers too. */
    private static void enoughSeen() {
        c.at("what was seen");
        String[] rare = {"noLoan 0", "noLoan 1", "noLoan 2", "noLoan 3", "noLoan 4", "noLoan 5", "noLesson 0", "noLesson 1",
            "noLesson 2", "noLesson 3", "noLesson 4", "shortOf 0", "shortOf 1", "march 0", "march 1", "march 4", "most 4",
            "bestMarch 0", "bestMarch 1", "bestMarch 2", "bestMarch 3", "helps 0", "work 0", "work 3", "work 6", "undo 5",
            "lend 9", "lend a number",
            "undo throws.IllegalStateException", "restore a number", "work throws.IllegalArgumentException"};
        for (String one : rare) {
            c.due(one, seen.getOrDefault(one, 0) >= 5 ? 1 : 0, 1);
        }
    }
}
