import java.util.ArrayDeque;
import java.util.ArrayList;
import java.util.Arrays;
import java.util.Deque;
import java.util.List;
import java.util.TreeMap;
import java.util.regex.Matcher;
import java.util.regex.Pattern;

/**
 * The document told a second time, with maps and texts, for the tests alone. It shares no code and no way of
 * holding the state with BandCornets: a state is a map of names to numbers, and is copied whole.
 */
final class Model {
    private static final String[] KINDS = {"cornet", "horn", "baritone", "tuba"};
    private static final int[] HEIGHTS = {8, 14, 20};
    private static final int[] FEES = {10, 25, 60};
    private static final int[] HIGHEST = {50, 200, 99};
    private static final String PART = "(?:lend[0-9][0-9]|back[0-9]|teach[0-9][0-2]|march[0-3]|mend[0-9]|day)";
    private static final Pattern WORKS = Pattern.compile(PART + "(?:;" + PART + ")*");

    private TreeMap<String, Integer> s = new TreeMap<>();
    private TreeMap<String, Integer> snapshot = null;
    private final Deque<TreeMap<String, Integer>> saved = new ArrayDeque<>();
    private String buffer = "";

    Model() {
        put("set0", 20);
        put("set1", 60);
        put("set2", 30);
    }

    private int get(String name) {
        return s.getOrDefault(name, 0);
    }

    private void put(String name, int value) {
        s.put(name, value);
    }

    private void add(String name, int more) {
        put(name, get(name) + more);
    }

    private void save() {
        saved.addLast(new TreeMap<>(s));
        if (saved.size() > 6) {
            saved.removeFirst();
        }
    }

    private static void index(boolean ok) {
        if (!ok) {
            throw new IndexOutOfBoundsException();
        }
    }

    private static void argument(boolean ok) {
        if (!ok) {
            throw new IllegalArgumentException();
        }
    }

    private static void state(boolean ok) {
        if (!ok) {
            throw new IllegalStateException();
        }
    }

    private boolean in(int x, int low, int high) {
        return low <= x && x <= high;
    }

    private boolean isPupil(int p) {
        return in(p, 0, get("pupils") - 1);
    }

    private boolean isInstrument(int i) {
        return in(i, 0, get("instruments") - 1);
    }

    private int kind(int i) {
        return get("i" + i + "kind");
    }

    private int dents(int i) {
        return get("i" + i + "dents");
    }

    /** The pupil that has the instrument, found in the loans alone. */
    private int holder(int i) {
        for (int k = 0; k < get("loans"); k++) {
            if (get("loan" + k) / 10 == i) {
                return get("loan" + k) % 10;
            }
        }
        return -1;
    }

    private int instrumentWith(int p) {
        for (int k = 0; k < get("loans"); k++) {
            if (get("loan" + k) % 10 == p) {
                return get("loan" + k) / 10;
            }
        }
        return -1;
    }

    // ---- calls; each name is that of the face

    long call(String name, int a, int b, int d) {
        switch (name) {
            case "pupil": {
                argument(in(a, 5, 30));
                state(get("pupils") < 10);
                save();
                int p = get("pupils");
                put("pupils", p + 1);
                put("p" + p + "lungs", a);
                put("p" + p + "breath", a);
                put("p" + p + "lips", 1);
                return p;
            }
            case "instrument": {
                argument(in(a, 0, 3));
                state(get("instruments") < 10);
                save();
                int i = get("instruments");
                put("instruments", i + 1);
                put("i" + i + "kind", a);
                return i;
            }
            case "dent":
                index(isInstrument(a));
                argument(in(b, 1, 9));
                save();
                put("i" + a + "dents", Math.min(9, dents(a) + b));
                return dents(a);
            case "pay": {
                index(isPupil(a));
                argument(in(b, 1, 999));
                save();
                int paid = Math.min(b, get("p" + a + "debt"));
                add("p" + a + "debt", -paid);
                add("paid", paid);
                return paid;
            }
            case "set": {
                index(in(a, 0, 2));
                argument(in(b, 0, HIGHEST[a]));
                save();
                int previous = get("set" + a);
                put("set" + a, b);
                return previous;
            }
            case "pass":
                argument(in(a, 1, 30));
                save();
                for (int k = 0; k < a; k++) {
                    day();
                }
                return get("day");
            case "lend":
            case "back":
            case "mend":
            case "teach":
            case "march": {
                check(name, a, b);
                save();
                return act(name, a, b);
            }
            default:
                return callMore(name, a, b, d);
        }
    }

    private long callMore(String name, int a, int b, int d) {
        switch (name) {
            case "append":
                argument(in(a, 33, 126));
                state(buffer.length() < 60);
                buffer += (char) a;
                return buffer.length();
            case "clearBuffer": {
                int length = buffer.length();
                buffer = "";
                return length;
            }
            case "firstError":
                return firstError();
            case "work":
                return work();
            case "told": {
                index(in(a, 0, 3));
                argument(b >= 0);
                String text = text(a);
                return b < text.length() ? text.charAt(b) : -1;
            }
            case "undo":
                state(!saved.isEmpty());
                s = saved.removeLast();
                return saved.size();
            case "keep":
                snapshot = new TreeMap<>(s);
                return get("day");
            case "restore":
                state(snapshot != null);
                save();
                s = new TreeMap<>(snapshot);
                return get("day");
            default:
                return look(name, a, b, d);
        }
    }

    private long look(String name, int a, int b, int d) {
        switch (name) {
            case "pupilOf":
                index(isPupil(a));
                argument(in(b, 0, 6));
                return pupilOf(a)[b];
            case "instrumentOf":
                index(isInstrument(a));
                argument(in(b, 0, 5));
                return instrumentOf(a)[b];
            case "loan":
                argument(a >= 0);
                return a < get("loans") ? get("loan" + a) : -1;
            case "part":
                index(in(a, 0, 3) && in(b, 0, 3));
                argument(in(d, 0, 3));
                return new int[] {needsKind(a, b), needsBreath(b), needsLips(a, b), lineUp(a).get(b)}[d];
            case "count":
                argument(in(a, 0, 18));
                return counts()[a];
            case "noLoan":
                index(isInstrument(a) && isPupil(b));
                return noLoan(a, b);
            case "noLesson":
                index(isPupil(a) && in(b, 0, 2));
                return noLesson(a, b);
            case "shortOf":
                index(in(a, 0, 3));
                return shortOf(a);
            case "most":
                index(in(a, 0, 3));
                return most(a, 0, 0);
            case "bestMarch":
                return bestMarch();
            case "helps":
                index(in(a, 0, 3) && in(b, 0, 2));
                return helps(a, b);
            case "played":
                return Double.doubleToLongBits(played());
            case "digest":
                return digest();
            default:
                throw new IllegalStateException(name);
        }
    }

    // ---- what works as a text can tell

    private void check(String name, int a, int b) {
        switch (name) {
            case "lend":
                index(isInstrument(a) && isPupil(b));
                state(noLoan(a, b) == 0);
                break;
            case "back":
                index(isInstrument(a));
                state(holder(a) >= 0);
                break;
            case "mend":
                index(isInstrument(a));
                state(holder(a) < 0);
                break;
            case "teach":
                index(isPupil(a) && in(b, 0, 2));
                state(noLesson(a, b) == 0);
                break;
            case "march":
                index(in(a, 0, 3));
                state(get("day") % 7 == 6 && get("marched") == 0);
                break;
            default:
                break;
        }
    }

    private int act(String name, int a, int b) {
        switch (name) {
            case "lend":
                put("loan" + get("loans"), 10 * a + b);
                put("i" + a + "lentWith", dents(a));
                add("loans", 1);
                return get("loans");
            case "back": {
                int p = holder(a);
                int bill = get("set0") * (dents(a) - get("i" + a + "lentWith"));
                add("p" + p + "debt", bill);
                List<Integer> loans = new ArrayList<>();
                for (int k = 0; k < get("loans"); k++) {
                    loans.add(get("loan" + k));
                }
                loans.remove(Integer.valueOf(10 * a + p));
                for (int k = 0; k < loans.size(); k++) {
                    put("loan" + k, loans.get(k));
                }
                put("loans", loans.size());
                return bill;
            }
            case "mend": {
                int price = 15 * dents(a);
                put("i" + a + "dents", 0);
                add("repairs", price);
                return price;
            }
            case "teach":
                add("p" + a + "lips", 1);
                add("p" + a + "breath", -3 - kind(instrumentWith(a)));
                put("p" + a + "taught", 1);
                add("fees", FEES[b]);
                add("lessons", 1);
                return get("p" + a + "lips");
            case "march":
                return march(a);
            default:
                day();
                return get("day");
        }
    }

    private void day() {
        add("day", 1);
        put("marched", 0);
        for (int p = 0; p < get("pupils"); p++) {
            put("p" + p + "taught", 0);
            put("p" + p + "breath", Math.min(get("p" + p + "lungs"), get("p" + p + "breath") + 4));
        }
    }

    private int march(int m) {
        List<Integer> players = lineUp(m);
        int pence = pence(m);
        int isShort = shortOf(m);
        for (int part = 0; part < 4; part++) {
            int p = players.get(part);
            if (p >= 0) {
                int i = instrumentWith(p);
                add("p" + p + "breath", -needsBreath(part));
                add("p" + p + "marches", 1);
                add("i" + i + "marches", 1);
                if (get("i" + i + "marches") % 3 == 0) {
                    put("i" + i + "dents", Math.min(9, dents(i) + 1));
                }
            }
        }
        put("marched", 1);
        add("marches", 1);
        add("short", isShort);
        add("earned", pence);
        return isShort;
    }

    private int firstError() {
        for (int k = 1; k <= buffer.length(); k++) {
            Matcher m = WORKS.matcher(buffer.substring(0, k));
            if (!m.matches() && !m.hitEnd()) {
                return k - 1;
            }
        }
        return buffer.length();
    }

    private int work() {
        argument(WORKS.matcher(buffer).matches());
        save();
        int done = 0;
        try {
            for (String part : buffer.split(";")) {
                String word = part.replaceAll("[0-9]", "");
                String figures = part.replaceAll("[^0-9]", "") + "000";
                check(word, figures.charAt(0) - '0', figures.charAt(1) - '0');
                act(word, figures.charAt(0) - '0', figures.charAt(1) - '0');
                done++;
            }
        } catch (IndexOutOfBoundsException | IllegalStateException e) {
            // The first part that is not possible ends the works.
        }
        buffer = "";
        return done;
    }

    // ---- looks

    private int needsKind(int m, int part) {
        return (m + part / 2) % 4;
    }

    private int needsBreath(int part) {
        return new int[] {4, 6, 8, 10}[part];
    }

    private int needsLips(int m, int part) {
        int lips = 2 + 3 * m - 2 * part;
        return lips < 1 ? 1 : lips;
    }

    private boolean can(int p, int m, int part) {
        int i = instrumentWith(p);
        return i >= 0 && dents(i) < 5 && kind(i) == needsKind(m, part)
            && get("p" + p + "breath") >= needsBreath(part) && get("p" + p + "lips") >= needsLips(m, part);
    }

    private List<Integer> lineUp(int m) {
        List<Integer> players = new ArrayList<>();
        for (int part = 0; part < 4; part++) {
            int best = -1;
            for (int p = get("pupils") - 1; p >= 0; p--) {
                boolean better = best < 0 || get("p" + p + "lips") >= get("p" + best + "lips");
                if (!players.contains(p) && can(p, m, part) && better) {
                    best = p;
                }
            }
            players.add(best);
        }
        return players;
    }

    private int shortOf(int m) {
        int isShort = 0;
        for (int p : lineUp(m)) {
            isShort += p < 0 ? 1 : 0;
        }
        return isShort;
    }

    /** Tries each pupil, or nobody, for each part from this one on. */
    private int most(int m, int part, int taken) {
        if (part == 4) {
            return 0;
        }
        int best = most(m, part + 1, taken);
        for (int p = 0; p < get("pupils"); p++) {
            if ((taken & 1 << p) == 0 && can(p, m, part)) {
                best = Math.max(best, 1 + most(m, part + 1, taken | 1 << p));
            }
        }
        return best;
    }

    private int pence(int m) {
        int isShort = shortOf(m);
        return isShort == 0 ? 8 * get("set2") : (4 - isShort) * get("set2");
    }

    private int bestMarch() {
        int best = 3;
        for (int m = 2; m >= 0; m--) {
            if (pence(m) >= pence(best)) {
                best = m;
            }
        }
        return best;
    }

    private int helps(int m, int teacher) {
        int before = shortOf(m);
        for (int p = 0; p < get("pupils"); p++) {
            if (noLesson(p, teacher) == 0) {
                TreeMap<String, Integer> back = new TreeMap<>(s);
                act("teach", p, teacher);
                int then = shortOf(m);
                s = back;
                if (then < before) {
                    return p;
                }
            }
        }
        return -1;
    }

    private int noLoan(int i, int p) {
        boolean[] reasons = {holder(i) >= 0, instrumentWith(p) >= 0, dents(i) >= 5, get("p" + p + "debt") > get("set1"),
            get("p" + p + "lungs") < 3 * kind(i) + 5};
        return first(reasons);
    }

    private int noLesson(int p, int teacher) {
        int i = instrumentWith(p);
        boolean[] reasons = {i < 0 || dents(i) >= 5, get("p" + p + "taught") == 1, get("p" + p + "lips") >= HEIGHTS[teacher],
            i >= 0 && get("p" + p + "breath") < 3 + kind(i)};
        return first(reasons);
    }

    private static int first(boolean[] reasons) {
        for (int k = 0; k < reasons.length; k++) {
            if (reasons[k]) {
                return k + 1;
            }
        }
        return 0;
    }

    private String text(int m) {
        List<String> parts = new ArrayList<>();
        for (int part = 0; part < 4; part++) {
            int p = lineUp(m).get(part);
            parts.add(KINDS[needsKind(m, part)] + ":" + (p < 0 ? "-" : p));
        }
        return String.join(",", parts);
    }

    private double played() {
        int parts = 4 * get("marches");
        return parts == 0 ? 1.0 : (double) (parts - get("short")) / parts;
    }

    private int[] pupilOf(int p) {
        String n = "p" + p;
        return new int[] {get(n + "lungs"), get(n + "breath"), get(n + "lips"), get(n + "debt"), instrumentWith(p),
            get(n + "taught"), get(n + "marches")};
    }

    private int[] instrumentOf(int i) {
        int dents = holder(i) < 0 ? -1 : dents(i) - get("i" + i + "lentWith");
        return new int[] {kind(i), dents(i), holder(i), get("i" + i + "marches"), dents, dents(i) < 5 ? 1 : 0};
    }

    private int[] counts() {
        int fund = 1000000 + get("earned") + get("paid") - get("fees") - get("repairs");
        int debts = 0;
        for (int p = 0; p < get("pupils"); p++) {
            debts += get("p" + p + "debt");
        }
        return new int[] {get("pupils"), get("instruments"), get("loans"), get("day"), get("day") % 7 == 6 ? 1 : 0,
            get("lessons"), get("marches"), get("short"), fund, fund, get("earned"), get("paid"), get("fees"),
            get("repairs"), debts, get("set0"), get("set1"), get("set2"), saved.size()};
    }

    private long digest() {
        List<Long> values = new ArrayList<>();
        addAll(values, counts());
        for (int p = 0; p < get("pupils"); p++) {
            addAll(values, pupilOf(p));
            addAll(values, noLesson(p, 0), noLesson(p, 1), noLesson(p, 2));
        }
        for (int i = 0; i < get("instruments"); i++) {
            addAll(values, instrumentOf(i));
        }
        for (int k = 0; k < get("loans"); k++) {
            addAll(values, get("loan" + k));
        }
        for (int m = 0; m < 4; m++) {
            addAll(values, shortOf(m), most(m, 0, 0), helps(m, 2));
            addAll(values, text(m).chars().toArray());
        }
        addAll(values, bestMarch());
        values.add(Double.doubleToLongBits(played()));
        addAll(values, buffer.length());
        addAll(values, buffer.chars().toArray());
        long hash = 3733;
        for (long v : values) {
            hash = 31 * hash + v;
        }
        return hash;
    }

    private static void addAll(List<Long> values, int... more) {
        Arrays.stream(more).forEach(v -> values.add((long) v));
    }
}
