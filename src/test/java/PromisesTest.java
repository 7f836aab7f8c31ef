/** Each promise by hand: ordinary inputs, the edges that the document names, and wrong inputs. */
public final class PromisesTest {
    private static final Class<IllegalArgumentException> ARGUMENT = IllegalArgumentException.class;
    private static final Class<IllegalStateException> STATE = IllegalStateException.class;
    private static final Class<IndexOutOfBoundsException> INDEX = IndexOutOfBoundsException.class;
    private static final int MIN = Integer.MIN_VALUE;
    private static final int MAX = Integer.MAX_VALUE;

    private static final Checks c = new Checks();

    public static void main(String[] args) {
        promise1();
        promise2();
        promise3();
        promise4();
        promise5();
        promise6();
        promise7();
        promise8();
        promise9();
        promise10();
        promise11();
        promise12();
        promise12Dents();
        promise13and14();
        promise15();
        promise16();
        promise16Stops();
        promise17();
        promise18();
        promise19and20();
        promise20Others();
        promise21();
        promise22();
        promise23();
        promise24();
        promise25();
        promise26();
        promise27();
        promise28and29();
        promise30();
        promise31();
        promise32();
        promise33();
        lastCalls();
        c.end("PromisesTest");
    }

    // ---- helpers

    private static void write(BandCornets x, String text) {
        x.clearBuffer();
        for (int k = 0; k < text.length(); k++) {
            x.append(text.charAt(k));
        }
    }

    private static int work(BandCornets x, String text) {
        write(x, text);
        return x.work();
    }

    private static int firstError(BandCornets x, String text) {
        write(x, text);
        return x.firstError();
    }

    private static String told(BandCornets x, int march) {
        StringBuilder s = new StringBuilder();
        for (int k = 0; k < 100 && x.told(march, k) != BandCornets.NONE; k++) {
            s.append((char) x.told(march, k));
        }
        return s.toString();
    }

    /** A band with pupils of these lungs, each with an instrument of the kind beside it; -1 for none. */
    private static BandCornets band(int... lungsAndKinds) {
        BandCornets x = new BandCornets();
        for (int k = 0; k < lungsAndKinds.length; k += 2) {
            int pupil = x.pupil(lungsAndKinds[k]);
            if (lungsAndKinds[k + 1] >= 0) {
                x.lend(x.instrument(lungsAndKinds[k + 1]), pupil);
            }
        }
        return x;
    }

    /** Teaches the pupil once a day, until the lips are so high; the teacher is one who teaches that high. */
    private static void lift(BandCornets x, int pupil, int lips) {
        for (int k = 0; k < 200 && x.pupilOf(pupil, 2) < lips; k++) {
            if (x.noLesson(pupil, 2) == 0) {
                x.teach(pupil, 2);
            } else {
                x.pass(1);
            }
        }
    }

    private static void rest(BandCornets x) {
        x.pass(14);
        for (int k = 0; k < 7 && x.count(4) == 0; k++) {
            x.pass(1);
        }
    }

    // ---- promises

    private static void promise1() {
        c.at("promise 1");
        BandCornets x = new BandCornets();
        c.due("NONE", BandCornets.NONE, -1);
        int[] want = {0, 0, 0, 0, 0, 0, 0, 0, 1000000, 1000000, 0, 0, 0, 0, 0, 20, 60, 30, 0};
        for (int what = 0; what < want.length; what++) {
            c.due("count(" + what + ")", x.count(what), want[what]);
        }
        c.due("clearBuffer", x.clearBuffer(), 0);
        c.dueThrow("restore", x, STATE, () -> x.restore());
        c.dueThrow("undo", x, STATE, () -> x.undo());
        c.due("loan(0)", x.loan(0), -1);
    }

    private static void promise2() {
        c.at("promise 2");
        BandCornets x = new BandCornets();
        for (int wrong : new int[] {4, 31, 0, -1, MIN, MAX}) {
            c.dueThrow("pupil(" + wrong + ")", x, ARGUMENT, () -> x.pupil(wrong));
        }
        for (int k = 0; k < 10; k++) {
            int lungs = k == 0 ? 5 : k == 1 ? 30 : 10 + k;
            c.due("pupil", x.pupil(lungs), k);
            int[] want = {lungs, lungs, 1, 0, -1, 0, 0};
            for (int what = 0; what < 7; what++) {
                c.due("pupilOf(" + k + ", " + what + ")", x.pupilOf(k, what), want[what]);
            }
        }
        c.due("count(0)", x.count(0), 10);
        c.dueThrow("pupil(5) of 11", x, STATE, () -> x.pupil(5));
        c.dueThrow("pupil(4) of 11", x, ARGUMENT, () -> x.pupil(4));
        x.undo();
        c.due("count(0) after undo", x.count(0), 9);
        c.due("pupil again", x.pupil(7), 9);
        c.due("lungs of it", x.pupilOf(9, 0), 7);
    }

    private static void promise3() {
        c.at("promise 3");
        BandCornets x = new BandCornets();
        for (int wrong : new int[] {-1, 4, MIN, MAX}) {
            c.dueThrow("instrument(" + wrong + ")", x, ARGUMENT, () -> x.instrument(wrong));
        }
        for (int k = 0; k < 10; k++) {
            c.due("instrument", x.instrument(k % 4), k);
            int[] want = {k % 4, 0, -1, 0, -1, 1};
            for (int what = 0; what < 6; what++) {
                c.due("instrumentOf(" + k + ", " + what + ")", x.instrumentOf(k, what), want[what]);
            }
        }
        c.due("count(1)", x.count(1), 10);
        c.dueThrow("instrument(0) of 11", x, STATE, () -> x.instrument(0));
        c.dueThrow("instrument(4) of 11", x, ARGUMENT, () -> x.instrument(4));
        x.undo();
        c.due("count(1) after undo", x.count(1), 9);
    }

    private static void promise4() {
        c.at("promise 4");
        BandCornets x = new BandCornets();
        x.pupil(20);
        x.pupil(20);
        x.instrument(0);
        x.instrument(1);
        for (int wrong : new int[] {-1, 2, MIN, MAX}) {
            c.dueThrow("lend(" + wrong + ", 0)", x, INDEX, () -> x.lend(wrong, 0));
            c.dueThrow("lend(0, " + wrong + ")", x, INDEX, () -> x.lend(0, wrong));
        }
        c.due("lend(1, 0)", x.lend(1, 0), 1);
        c.due("the pupil's instrument", x.pupilOf(0, 4), 1);
        c.due("the instrument's pupil", x.instrumentOf(1, 2), 0);
        c.dueThrow("lend(1, 1), lent", x, STATE, () -> x.lend(1, 1));
        c.dueThrow("lend(0, 0), has one", x, STATE, () -> x.lend(0, 0));
        c.dueThrow("lend(2, 0)", x, INDEX, () -> x.lend(2, 0));
        c.due("lend(0, 1)", x.lend(0, 1), 2);
        c.due("count(2)", x.count(2), 2);
        c.due("undo", x.undo(), 5);
        c.due("count(2) after undo", x.count(2), 1);
        c.due("pupilOf(1, 4) after undo", x.pupilOf(1, 4), -1);
    }

    private static void promise5() {
        c.at("promise 5");
        BandCornets x = band(20, 0, 20, 1);
        for (int wrong : new int[] {-1, 2, MIN, MAX}) {
            c.dueThrow("back(" + wrong + ")", x, INDEX, () -> x.back(wrong));
        }
        c.due("back(1) without dents", x.back(1), 0);
        c.dueThrow("back(1) twice", x, STATE, () -> x.back(1));
        c.due("its pupil has none", x.pupilOf(1, 4), -1);
        c.due("it is lent to nobody", x.instrumentOf(1, 2), -1);
        x.dent(1, 2);
        x.lend(1, 1);
        x.dent(1, 9);
        c.due("only the dents of the loan", x.back(1), 7 * 20);
        c.due("the debt", x.pupilOf(1, 3), 140);
        x.dent(0, 1);
        x.set(0, 50);
        c.due("the setting of then", x.back(0), 50);
        c.due("count(14)", x.count(14), 190);
        c.due("count(2)", x.count(2), 0);
        c.due("the fund stays", x.count(8), 1000000);
        x.lend(0, 0);
        x.dent(0, 1);
        c.due("a second bill", x.back(0), 50);
        c.due("comes to the debt", x.pupilOf(0, 3), 100);
        x.undo();
        c.due("undo brings the loan", x.instrumentOf(0, 2), 0);
        c.due("undo brings the debt", x.pupilOf(0, 3), 50);
    }

    private static void promise6() {
        c.at("promise 6");
        BandCornets x = new BandCornets();
        x.instrument(3);
        for (int wrong : new int[] {0, 10, -1, MIN, MAX}) {
            c.dueThrow("dent(0, " + wrong + ")", x, ARGUMENT, () -> x.dent(0, wrong));
            c.dueThrow("dent(1, " + wrong + ")", x, INDEX, () -> x.dent(1, wrong));
        }
        c.dueThrow("dent(-1, 1)", x, INDEX, () -> x.dent(-1, 1));
        c.due("dent(0, 1)", x.dent(0, 1), 1);
        c.due("dent(0, 3)", x.dent(0, 3), 4);
        c.due("it can be played with 4", x.instrumentOf(0, 5), 1);
        c.due("dent(0, 1)", x.dent(0, 1), 5);
        c.due("it cannot be played with 5", x.instrumentOf(0, 5), 0);
        c.due("dent(0, 9)", x.dent(0, 9), 9);
        c.due("dent(0, 9) once more", x.dent(0, 9), 9);
        c.due("also what changes nothing is saved", x.count(18), 6);
        x.undo();
        x.undo();
        c.due("undo twice", x.instrumentOf(0, 1), 5);
    }

    private static void promise7() {
        c.at("promise 7");
        BandCornets x = band(20, 0);
        x.dent(0, 4);
        c.dueThrow("mend(0), lent", x, STATE, () -> x.mend(0));
        for (int wrong : new int[] {-1, 1, MIN, MAX}) {
            c.dueThrow("mend(" + wrong + ")", x, INDEX, () -> x.mend(wrong));
        }
        x.back(0);
        c.due("mend(0)", x.mend(0), 60);
        c.due("its dents", x.instrumentOf(0, 1), 0);
        c.due("repairs", x.count(13), 60);
        c.due("the fund", x.count(8), 1000000 - 60);
        c.due("the fund from the sums", x.count(9), 1000000 - 60);
        c.due("mend(0) without dents", x.mend(0), 0);
        x.dent(0, 9);
        c.due("mend(0) with 9", x.mend(0), 135);
        c.due("repairs together", x.count(13), 195);
    }

    private static void promise8() {
        c.at("promise 8");
        BandCornets x = band(20, 0);
        for (int wrong : new int[] {0, 1000, -1, MIN, MAX}) {
            c.dueThrow("pay(0, " + wrong + ")", x, ARGUMENT, () -> x.pay(0, wrong));
            c.dueThrow("pay(1, " + wrong + ")", x, INDEX, () -> x.pay(1, wrong));
        }
        c.due("pay without debt", x.pay(0, 999), 0);
        c.due("is saved", x.count(18), 4);
        x.dent(0, 3);
        x.back(0);
        c.due("pay(0, 1)", x.pay(0, 1), 1);
        c.due("the debt", x.pupilOf(0, 3), 59);
        c.due("pay(0, 999)", x.pay(0, 999), 59);
        c.due("the debt behind it", x.pupilOf(0, 3), 0);
        c.due("debts paid", x.count(11), 60);
        c.due("the fund", x.count(8), 1000060);
        c.due("the fund from the sums", x.count(9), 1000060);
        x.undo();
        c.due("undo brings the debt", x.pupilOf(0, 3), 59);
        c.due("undo brings the sum", x.count(11), 1);
    }

    private static void promise9() {
        c.at("promise 9");
        BandCornets x = new BandCornets();
        int[] first = {20, 60, 30};
        int[] highest = {50, 200, 99};
        for (int s = 0; s < 3; s++) {
            int setting = s;
            for (int wrong : new int[] {-1, highest[s] + 1, MIN, MAX}) {
                c.dueThrow("set(" + s + ", " + wrong + ")", x, ARGUMENT, () -> x.set(setting, wrong));
            }
            c.due("set to the highest", x.set(s, highest[s]), first[s]);
            c.due("set to 0", x.set(s, 0), highest[s]);
            c.due("count", x.count(15 + s), 0);
            c.due("set to 1", x.set(s, 1), 0);
        }
        for (int wrong : new int[] {-1, 3, MIN, MAX}) {
            c.dueThrow("set(" + wrong + ", 0)", x, INDEX, () -> x.set(wrong, 0));
            c.dueThrow("set(" + wrong + ", -1)", x, INDEX, () -> x.set(wrong, -1));
        }
        x.undo();
        c.due("undo", x.count(17), 0);
        c.due("undo leaves the others", x.count(15), 1);
    }

    private static void promise10() {
        c.at("promise 10");
        BandCornets x = band(12, 0, 10, 1);
        for (int wrong : new int[] {0, 31, -1, MIN, MAX}) {
            c.dueThrow("pass(" + wrong + ")", x, ARGUMENT, () -> x.pass(wrong));
        }
        x.teach(0, 0);
        x.teach(1, 0);
        c.due("had a lesson", x.pupilOf(0, 5), 1);
        c.due("breath", x.pupilOf(0, 1), 9);
        c.due("pass(1)", x.pass(1), 1);
        c.due("no lesson on the new day", x.pupilOf(0, 5), 0);
        c.due("at most the lungs", x.pupilOf(0, 1), 12);
        c.due("exactly the lungs", x.pupilOf(1, 1), 10);
        c.due("no Sunday", x.count(4), 0);
        c.due("pass(5)", x.pass(5), 6);
        c.due("a Sunday", x.count(4), 1);
        x.march(0);
        c.due("breath after the march", x.pupilOf(0, 1), 8);
        c.due("pass(1)", x.pass(1), 7);
        c.due("4 more", x.pupilOf(0, 1), 12);
        c.due("no Sunday", x.count(4), 0);
        c.due("pass(30)", x.pass(30), 37);
        x.undo();
        c.due("undone as one call", x.count(3), 7);
        x.pass(6);
        c.due("the next Sunday", x.march(0), 2);
        BandCornets y = band(30, 3);
        y.teach(0, 2);
        y.pass(1);
        y.teach(0, 2);
        c.due("breath of two lessons", y.pupilOf(0, 1), 30 - 6 + 4 - 6);
        y.pass(2);
        c.due("4 for each day", y.pupilOf(0, 1), 30);
    }

    private static void promise11() {
        c.at("promise 11");
        BandCornets x = band(20, 2, 20, -1);
        for (int wrong : new int[] {-1, 3, MIN, MAX}) {
            c.dueThrow("teach(0, " + wrong + ")", x, INDEX, () -> x.teach(0, wrong));
            c.dueThrow("teach(1, " + wrong + ")", x, INDEX, () -> x.teach(1, wrong));
        }
        for (int wrong : new int[] {-1, 2, MIN, MAX}) {
            c.dueThrow("teach(" + wrong + ", 0)", x, INDEX, () -> x.teach(wrong, 0));
        }
        c.dueThrow("teach(1, 0) without an instrument", x, STATE, () -> x.teach(1, 0));
        c.due("teach(0, 0)", x.teach(0, 0), 2);
        c.due("breath", x.pupilOf(0, 1), 15);
        c.due("fees", x.count(12), 10);
        c.due("lessons", x.count(5), 1);
        c.dueThrow("teach(0, 1) on the same day", x, STATE, () -> x.teach(0, 1));
        x.pass(1);
        c.due("teach(0, 1)", x.teach(0, 1), 3);
        c.due("fees", x.count(12), 35);
        x.pass(1);
        c.due("teach(0, 2)", x.teach(0, 2), 4);
        c.due("fees", x.count(12), 95);
        c.due("the fund", x.count(8), 1000000 - 95);
        c.due("the fund from the sums", x.count(9), 1000000 - 95);
        x.undo();
        c.due("undo brings lips", x.pupilOf(0, 2), 3);
        c.due("undo brings the lesson", x.pupilOf(0, 5), 0);
        c.due("undo brings lessons", x.count(5), 2);
    }

    /** A band on a Sunday, which can fill the march 0 with two cornets and two horns. */
    private static BandCornets fullBand() {
        BandCornets x = band(30, 0, 30, 0, 30, 1, 30, 1);
        lift(x, 0, 2);
        lift(x, 1, 3);
        rest(x);
        return x;
    }

    private static void promise12() {
        c.at("promise 12");
        BandCornets x = fullBand();
        for (int wrong : new int[] {-1, 4, MIN, MAX}) {
            c.dueThrow("march(" + wrong + ")", x, INDEX, () -> x.march(wrong));
        }
        int fund = x.count(8);
        c.due("march(0)", x.march(0), 0);
        c.due("twice as much", x.count(8), fund + 240);
        c.due("the fund from the sums", x.count(9), fund + 240);
        c.due("earned", x.count(10), 240);
        int[] breath = {30 - 6, 30 - 4, 30 - 8, 30 - 10};
        for (int p = 0; p < 4; p++) {
            c.due("breath of " + p, x.pupilOf(p, 1), breath[p]);
            c.due("marches of " + p, x.pupilOf(p, 6), 1);
            c.due("marches of its instrument", x.instrumentOf(p, 3), 1);
        }
        c.due("marches", x.count(6), 1);
        c.due("short", x.count(7), 0);
        c.dueThrow("march(0) twice", x, STATE, () -> x.march(0));
        c.dueThrow("march(1) on the same day", x, STATE, () -> x.march(1));
        c.dueThrow("march(4) on the same day", x, INDEX, () -> x.march(4));
        x.pass(1);
        c.dueThrow("march(0) on no Sunday", x, STATE, () -> x.march(0));
        c.dueThrow("march(-1) on no Sunday", x, INDEX, () -> x.march(-1));
        x.pass(6);
        x.back(3);
        c.due("march(0), one short", x.march(0), 1);
        c.due("not twice as much", x.count(10), 240 + 90);
        c.due("short so far", x.count(7), 1);
        c.due("who has no part does not play", x.pupilOf(3, 6), 1);
        c.due("the parts 0, 1, 2 were played", x.pupilOf(2, 6), 2);
        x.undo();
        c.due("undo brings the Sunday", x.march(3), 4);
        c.due("short so far", x.count(7), 4);
        c.due("nothing earned", x.count(10), 240);
        c.due("marches", x.count(6), 2);
    }

    private static void promise12Dents() {
        c.at("promise 12, dents");
        BandCornets x = band(30, 0);
        lift(x, 0, 2);
        x.dent(0, 2);
        for (int k = 1; k <= 9; k++) {
            rest(x);
            c.due("dents before", x.instrumentOf(0, 1), 2 + (k - 1) / 3);
            c.due("march", x.march(0), 3);
            c.due("dents", x.instrumentOf(0, 1), 2 + k / 3);
            c.due("dents of the loan", x.instrumentOf(0, 4), 2 + k / 3);
        }
        rest(x);
        c.due("it cannot be played any more", x.march(0), 4);
        c.due("its marches", x.instrumentOf(0, 3), 9);
        c.due("back", x.back(0), 100);
        c.due("mend", x.mend(0), 75);
        x.pay(0, 100);
        x.lend(0, 0);
        rest(x);
        x.march(0);
        c.due("a mended one counts on", x.instrumentOf(0, 3), 10);
        c.due("without a dent yet", x.instrumentOf(0, 1), 0);
    }

    private static void promise13and14() {
        c.at("promise 13");
        BandCornets x = new BandCornets();
        for (int wrong : new int[] {32, 127, 0, -1, MIN, MAX, 256 + 97}) {
            c.dueThrow("append(" + wrong + ")", x, ARGUMENT, () -> x.append(wrong));
        }
        for (int k = 1; k <= 60; k++) {
            c.due("append", x.append(k % 2 == 0 ? 33 : 126), k);
        }
        c.dueThrow("append(97) of 61", x, STATE, () -> x.append(97));
        c.dueThrow("append(32) of 61", x, ARGUMENT, () -> x.append(32));
        c.due("nothing is saved", x.count(18), 0);
        c.at("promise 14");
        c.due("clearBuffer", x.clearBuffer(), 60);
        c.due("clearBuffer again", x.clearBuffer(), 0);
        c.due("append", x.append(100), 1);
        c.due("nothing is saved", x.count(18), 0);
    }

    private static void promise15() {
        c.at("promise 15");
        BandCornets x = new BandCornets();
        String[] good = {
            "", "l", "lend", "lend0", "lend09", "lend99;", "back", "back9", "teach", "teach9", "teach92", "m",
            "ma", "me", "march3", "mend9", "d", "day", "day;", "day;day;m",
            "lend37;back3;teach02;march0;mend4;day", "day;day;day;day;day;day;day;day;day;day;day;day;day;day;day;",
            "teach00;teach00;teach00;teach00;teach00;teach00;teach00;teac"
        };
        for (String text : good) {
            c.due("'" + text + "'", firstError(x, text), text.length());
        }
        String[] wrong = {
            "#;", "#x", "#L", "lend#;", "lend1#;", "lend12#3", "lend#a", "back#;", "back1#2", "teach#;", "teach1#;",
            "teach1#3", "teach1#9", "teach11#1", "march#4", "march#9", "march#;", "march1#1", "mend1#1", "mend#/",
            "mend#:", "da#;", "day#1", "day#d", "day;#;", "day;#1", "m#;", "m#d", "ma#y", "day#X",
            "lend12;back3;#,day", "#9", "lend1#P", "day;march0;teach0#3;#", "back#-1", "me#rch1"
        };
        for (String text : wrong) {
            int at = text.indexOf('#');
            String buffer = text.substring(0, at) + text.substring(at + 1);
            c.due("'" + buffer + "'", firstError(x, buffer), at);
        }
        c.due("nothing is saved", x.count(18), 0);
    }

    private static void promise16() {
        c.at("promise 16");
        BandCornets x = new BandCornets();
        String[] wrong = {"", "d", "da", "day;", ";", "day;;day", "lend0", "back", "teach0", "teach03", "march4", "march",
            "mend", "day;lend1", "day,day", "Day"};
        for (String text : wrong) {
            write(x, text);
            c.dueThrow("work '" + text + "'", x, ARGUMENT, () -> x.work());
            c.due("the buffer stays", x.clearBuffer(), text.length());
        }
        x.pupil(20);
        x.instrument(0);
        x.instrument(0);
        c.due("lend and teach", work(x, "lend10;teach00;day;teach02"), 4);
        c.due("the buffer is cleared", x.clearBuffer(), 0);
        c.due("saved as one call", x.count(18), 4);
        c.due("lent", x.pupilOf(0, 4), 1);
        c.due("lips", x.pupilOf(0, 2), 3);
        c.due("fees", x.count(12), 70);
        c.due("day", x.count(3), 1);
        x.dent(1, 3);
        c.due("back and mend", work(x, "back1;mend1"), 2);
        c.due("debt", x.pupilOf(0, 3), 60);
        c.due("repairs", x.count(13), 45);
        c.due("march", work(x, "lend00;day;day;day;day;day;march0"), 7);
        c.due("marches", x.count(6), 1);
        c.due("short", x.count(7), 3);
        x.undo();
        c.due("undone as one call", x.count(3), 1);
        c.due("the loan is gone", x.count(2), 0);
        c.due("fifteen parts", work(x, "day;day;day;day;day;day;day;day;day;day;day;day;day;day;day"), 15);
        c.due("day", x.count(3), 16);
    }

    private static void promise16Stops() {
        c.at("promise 16, what stops it");
        String[] stops = {"lend55", "lend05", "lend50", "lend10", "lend01", "back5", "back1", "teach50", "teach10", "march0",
            "mend5", "mend0"};
        for (String stop : stops) {
            BandCornets x = band(20, 0, 20, -1);
            x.instrument(2);
            x.dent(1, 5);
            c.due("day;" + stop + ";day", work(x, "day;" + stop + ";day"), 1);
            c.due("the day", x.count(3), 1);
            c.due("the buffer is cleared", x.clearBuffer(), 0);
            c.due("loans", x.count(2), 1);
            c.due(stop + " alone", work(x, stop), 0);
            c.due("saved also if nothing is done", x.count(18), 6);
            x.undo();
            c.due("undo of nothing", x.count(3), 1);
            x.undo();
            c.due("undo of one part", x.count(3), 0);
        }
        BandCornets x = band(20, 0);
        c.due("the second lesson of a day", work(x, "teach00;teach00"), 1);
        c.due("march on no Sunday", work(x, "day;march1"), 1);
        c.due("two marches", work(x, "day;day;day;day;day;march1;march1;day"), 6);
        c.due("the day", x.count(3), 6);
    }

    private static void promise17() {
        c.at("promise 17");
        BandCornets x = band(30, 0, 30, 1);
        c.due("march 0", told(x, 0), "cornet:-,cornet:0,horn:1,horn:-");
        c.due("march 1", told(x, 1), "horn:-,horn:-,baritone:-,baritone:-");
        c.due("march 2", told(x, 2), "baritone:-,baritone:-,tuba:-,tuba:-");
        c.due("march 3", told(x, 3), "tuba:-,tuba:-,cornet:-,cornet:-");
        c.due("the first", x.told(3, 0), 't');
        c.due("the last", x.told(3, 30), '-');
        c.due("one behind the last", x.told(3, 31), -1);
        c.due("far behind", x.told(3, MAX), -1);
        for (int wrong : new int[] {-1, 4, MIN, MAX}) {
            c.dueThrow("told(" + wrong + ", 0)", x, INDEX, () -> x.told(wrong, 0));
            c.dueThrow("told(" + wrong + ", -1)", x, INDEX, () -> x.told(wrong, -1));
        }
        c.dueThrow("told(0, -1)", x, ARGUMENT, () -> x.told(0, -1));
        c.dueThrow("told(0, MIN)", x, ARGUMENT, () -> x.told(0, MIN));
        BandCornets y = band(30, 0, 30, -1, 30, -1, 30, -1, 30, -1, 30, -1, 30, -1, 30, -1, 30, -1, 30, 0);
        c.due("pupils 0 and 9", told(y, 0), "cornet:-,cornet:0,horn:-,horn:-");
        lift(y, 9, 2);
        c.due("the highest lips first", told(y, 0), "cornet:9,cornet:0,horn:-,horn:-");
        lift(y, 0, 2);
        rest(y);
        c.due("of several the lowest", told(y, 0), "cornet:0,cornet:9,horn:-,horn:-");
    }

    private static void promise18() {
        c.at("promise 18");
        BandCornets x = new BandCornets();
        x.append('d');
        for (int k = 0; k < 8; k++) {
            x.pass(1);
            c.due("saved", x.count(18), Math.min(6, k + 1));
        }
        x.append('a');
        for (int k = 5; k >= 0; k--) {
            c.due("undo", x.undo(), k);
            c.due("day", x.count(3), 2 + k);
            c.due("saved", x.count(18), k);
        }
        c.dueThrow("undo of nothing", x, STATE, () -> x.undo());
        c.due("the buffer stays", x.clearBuffer(), 2);
        x.pass(3);
        c.due("undo", x.undo(), 0);
        c.due("day", x.count(3), 2);
        long[] seen = new long[7];
        BandCornets y = fullBand();
        for (int k = 0; k < 6; k++) {
            seen[k] = looks(y);
            if (k == 0) {
                y.march(0);
            } else if (k == 1) {
                y.dent(0, 4);
            } else if (k == 2) {
                y.back(0);
            } else if (k == 3) {
                y.mend(0);
            } else if (k == 4) {
                y.pay(0, 30);
            } else {
                y.teach(2, 2);
            }
        }
        for (int k = 5; k >= 0; k--) {
            y.undo();
            c.due("all as before", looks(y), seen[k]);
        }
        y.march(0);
        c.due("a march can be played again", y.count(6), 1);
    }

    /** A hash of what can be seen of the state, without the saved states and the buffer. */
    private static long looks(BandCornets x) {
        long hash = 7;
        for (int what = 0; what < 18; what++) {
            hash = 31 * hash + x.count(what);
        }
        for (int p = 0; p < x.count(0); p++) {
            for (int what = 0; what < 7; what++) {
                hash = 31 * hash + x.pupilOf(p, what);
            }
        }
        for (int i = 0; i < x.count(1); i++) {
            for (int what = 0; what < 6; what++) {
                hash = 31 * hash + x.instrumentOf(i, what);
            }
        }
        for (int l = 0; l < 11; l++) {
            hash = 31 * hash + x.loan(l);
        }
        return 31 * hash + Double.doubleToLongBits(x.played());
    }

    private static void promise19and20() {
        c.at("promise 19");
        BandCornets x = band(20, 0);
        x.pass(2);
        c.due("keep", x.keep(), 2);
        c.due("keep is not undoable", x.count(18), 4);
        long kept = looks(x);
        x.append('d');
        x.teach(0, 0);
        x.back(0);
        x.set(1, 5);
        x.pupil(9);
        x.pass(4);
        c.at("promise 20");
        long before = looks(x);
        c.due("restore", x.restore(), 2);
        c.due("all as kept", looks(x), kept);
        c.due("the buffer stays", x.clearBuffer(), 1);
        c.due("it is saved", x.count(18), 6);
        x.undo();
        c.due("undo of restore", looks(x), before);
        c.due("the snapshot stays", x.restore(), 2);
        c.due("also a second time", x.restore(), 2);
        x.teach(0, 2);
        c.due("restore after more", x.restore(), 2);
        c.due("all as kept", looks(x), kept);
        x.pass(7);
        c.due("keep in place of the one before", x.keep(), 9);
        x.pass(1);
        c.due("restore", x.restore(), 9);
        for (int k = x.count(18); k > 0; k--) {
            x.undo();
        }
        c.due("undo leaves the snapshot", x.restore(), 9);
        BandCornets y = fullBand();
        y.keep();
        y.march(0);
        y.restore();
        c.due("the march of the day is undone", y.march(1), 4);
        y.keep();
        y.pass(7);
        y.restore();
        c.dueThrow("the march of the day is kept", y, STATE, () -> y.march(0));
    }

    /** The snapshot brings back others who bore the same numbers. */
    private static void promise20Others() {
        c.at("promise 20, others with the same numbers");
        BandCornets x = new BandCornets();
        x.pupil(11);
        x.instrument(2);
        x.lend(0, 0);
        x.teach(0, 1);
        x.dent(0, 3);
        x.keep();
        long kept = looks(x);
        for (int k = 0; k < 5; k++) {
            x.undo();
        }
        c.due("nobody is left", x.count(0) + x.count(1), 0);
        c.due("a new pupil", x.pupil(25), 0);
        c.due("a new instrument", x.instrument(1), 0);
        int[] pupil = {25, 25, 1, 0, -1, 0, 0};
        int[] instrument = {1, 0, -1, 0, -1, 1};
        for (int what = 0; what < 7; what++) {
            c.due("pupilOf(0, " + what + ")", x.pupilOf(0, what), pupil[what]);
        }
        for (int what = 0; what < 6; what++) {
            c.due("instrumentOf(0, " + what + ")", x.instrumentOf(0, what), instrument[what]);
        }
        x.restore();
        c.due("all as kept", looks(x), kept);
        x.undo();
        c.due("the lungs of the other", x.pupilOf(0, 0), 25);
        c.due("the kind of the other", x.instrumentOf(0, 0), 1);
    }

    private static void promise21() {
        c.at("promise 21");
        BandCornets x = fullBand();
        x.march(0);
        x.teach(0, 0);
        x.dent(0, 1);
        int[] want = {30, 21, 3, 0, 0, 1, 1};
        for (int what = 0; what < 7; what++) {
            c.due("pupilOf(0, " + what + ")", x.pupilOf(0, what), want[what]);
        }
        x.back(0);
        c.due("debt", x.pupilOf(0, 3), 20);
        c.due("no instrument", x.pupilOf(0, 4), -1);
        for (int wrong : new int[] {-1, 4, MIN, MAX}) {
            c.dueThrow("pupilOf(" + wrong + ", 0)", x, INDEX, () -> x.pupilOf(wrong, 0));
            c.dueThrow("pupilOf(" + wrong + ", 7)", x, INDEX, () -> x.pupilOf(wrong, 7));
        }
        for (int wrong : new int[] {-1, 7, MIN, MAX}) {
            c.dueThrow("pupilOf(0, " + wrong + ")", x, ARGUMENT, () -> x.pupilOf(0, wrong));
        }
    }

    private static void promise22() {
        c.at("promise 22");
        BandCornets x = band(30, 3, 30, 0);
        x.back(0);
        x.dent(0, 2);
        x.lend(0, 0);
        c.due("no dents of the loan yet", x.instrumentOf(0, 4), 0);
        x.dent(0, 4);
        int[] want = {3, 6, 0, 0, 4, 0};
        for (int what = 0; what < 6; what++) {
            c.due("instrumentOf(0, " + what + ")", x.instrumentOf(0, what), want[what]);
        }
        x.back(0);
        c.due("lent to nobody", x.instrumentOf(0, 2), -1);
        c.due("no dents of a loan", x.instrumentOf(0, 4), -1);
        for (int wrong : new int[] {-1, 2, MIN, MAX}) {
            c.dueThrow("instrumentOf(" + wrong + ", 0)", x, INDEX, () -> x.instrumentOf(wrong, 0));
            c.dueThrow("instrumentOf(" + wrong + ", 6)", x, INDEX, () -> x.instrumentOf(wrong, 6));
        }
        for (int wrong : new int[] {-1, 6, MIN, MAX}) {
            c.dueThrow("instrumentOf(0, " + wrong + ")", x, ARGUMENT, () -> x.instrumentOf(0, wrong));
        }
    }

    private static void promise23() {
        c.at("promise 23");
        BandCornets x = new BandCornets();
        for (int k = 0; k < 10; k++) {
            x.pupil(20);
            x.instrument(0);
        }
        for (int k = 0; k < 10; k++) {
            c.due("lend", x.lend(9 - k, k), k + 1);
        }
        for (int k = 0; k < 10; k++) {
            c.due("loan(" + k + ")", x.loan(k), 10 * (9 - k) + k);
        }
        c.due("loan(10)", x.loan(10), -1);
        c.due("loan(MAX)", x.loan(MAX), -1);
        c.dueThrow("loan(-1)", x, ARGUMENT, () -> x.loan(-1));
        c.dueThrow("loan(MIN)", x, ARGUMENT, () -> x.loan(MIN));
        x.back(9);
        x.back(5);
        x.lend(9, 4);
        int[] want = {81, 72, 63, 45, 36, 27, 18, 9, 94, -1};
        for (int k = 0; k < 10; k++) {
            c.due("loan(" + k + ") behind it", x.loan(k), want[k]);
        }
        x.undo();
        x.undo();
        x.undo();
        c.due("undo brings the order", x.loan(0), 90);
        c.due("undo brings the end", x.loan(9), 9);
    }

    private static void promise24() {
        c.at("promise 24");
        BandCornets x = fullBand();
        int[][] kinds = {{0, 0, 1, 1}, {1, 1, 2, 2}, {2, 2, 3, 3}, {3, 3, 0, 0}};
        int[][] lips = {{2, 1, 1, 1}, {5, 3, 1, 1}, {8, 6, 4, 2}, {11, 9, 7, 5}};
        int[] breath = {4, 6, 8, 10};
        for (int m = 0; m < 4; m++) {
            for (int p = 0; p < 4; p++) {
                c.due("kind", x.part(m, p, 0), kinds[m][p]);
                c.due("breath", x.part(m, p, 1), breath[p]);
                c.due("lips", x.part(m, p, 2), lips[m][p]);
            }
        }
        int[] who = {1, 0, 2, 3};
        for (int p = 0; p < 4; p++) {
            c.due("who", x.part(0, p, 3), who[p]);
            c.due("short", x.part(2, p, 3), -1);
        }
        for (int wrong : new int[] {-1, 4, MIN, MAX}) {
            c.dueThrow("part(" + wrong + ", 0, 0)", x, INDEX, () -> x.part(wrong, 0, 0));
            c.dueThrow("part(0, " + wrong + ", 0)", x, INDEX, () -> x.part(0, wrong, 0));
            c.dueThrow("part(0, 0, " + wrong + ")", x, ARGUMENT, () -> x.part(0, 0, wrong));
            c.dueThrow("part(" + wrong + ", 0, 4)", x, INDEX, () -> x.part(wrong, 0, 4));
            c.dueThrow("part(0, " + wrong + ", 4)", x, INDEX, () -> x.part(0, wrong, 4));
        }
    }

    private static void promise25() {
        c.at("promise 25");
        BandCornets x = fullBand();
        int lessons = x.count(5);
        x.march(0);
        x.dent(2, 3);
        x.back(2);
        x.dent(3, 1);
        x.back(3);
        x.pay(2, 25);
        x.mend(2);
        x.set(0, 1);
        x.set(1, 2);
        x.set(2, 3);
        int day = x.count(3);
        int fees = 60 * lessons;
        int fund = 1000000 + 240 + 25 - fees - 45;
        int[] want = {4, 4, 2, day, 1, 3, 1, 0, fund, fund, 240, 25, fees, 45, 55, 1, 2, 3, 6};
        for (int what = 0; what < 19; what++) {
            c.due("count(" + what + ")", x.count(what), want[what]);
        }
        for (int wrong : new int[] {-1, 19, MIN, MAX}) {
            c.dueThrow("count(" + wrong + ")", x, ARGUMENT, () -> x.count(wrong));
        }
    }

    private static void promise26() {
        c.at("promise 26");
        BandCornets x = new BandCornets();
        int[] lungs = {5, 8, 11, 14, 7, 10, 13};
        for (int k = 0; k < lungs.length; k++) {
            x.pupil(lungs[k]);
        }
        for (int k = 0; k < 4; k++) {
            x.instrument(k);
            c.due("lungs enough for " + k, x.noLoan(k, k), 0);
        }
        for (int k = 1; k < 4; k++) {
            c.due("lungs too small for " + k, x.noLoan(k, 3 + k), 5);
        }
        x.lend(0, 0);
        x.dent(0, 4);
        c.due("back", x.back(0), 80);
        c.due("the debt is above", x.noLoan(0, 0), 4);
        c.due("the debt goes before the lungs", x.noLoan(3, 0), 4);
        x.set(1, 80);
        c.due("a debt as high is no reason", x.noLoan(0, 0), 0);
        x.set(1, 79);
        c.due("the debt is above by 1", x.noLoan(0, 0), 4);
        x.dent(0, 1);
        c.due("dents go before the debt", x.noLoan(0, 0), 3);
        c.due("dents alone", x.noLoan(0, 1), 3);
        x.lend(1, 1);
        c.due("has one goes before dents", x.noLoan(0, 1), 2);
        c.due("lent goes before has one", x.noLoan(1, 1), 1);
        c.due("lent alone", x.noLoan(1, 3), 1);
        for (int wrong : new int[] {-1, 7, MIN, MAX}) {
            c.dueThrow("noLoan(" + wrong + ", 0)", x, INDEX, () -> x.noLoan(wrong, 0));
            c.dueThrow("noLoan(0, " + wrong + ")", x, INDEX, () -> x.noLoan(0, wrong));
        }
        c.dueThrow("noLoan(4, 0)", x, INDEX, () -> x.noLoan(4, 0));
    }

    private static void promise27() {
        c.at("promise 27");
        BandCornets x = band(5, 0, 30, 3, 30, -1);
        for (int wrong : new int[] {-1, 3, MIN, MAX}) {
            c.dueThrow("noLesson(" + wrong + ", 0)", x, INDEX, () -> x.noLesson(wrong, 0));
            c.dueThrow("noLesson(0, " + wrong + ")", x, INDEX, () -> x.noLesson(0, wrong));
        }
        c.due("possible", x.noLesson(0, 0), 0);
        c.due("no instrument", x.noLesson(2, 0), 1);
        x.dent(1, 5);
        c.due("it cannot be played", x.noLesson(1, 0), 1);
        x.undo();
        x.teach(0, 0);
        c.due("a lesson on this day, breath 2 too", x.noLesson(0, 0), 2);
        x.dent(0, 5);
        c.due("the instrument goes before the lesson", x.noLesson(0, 0), 1);
        x.undo();
        for (int k = 0; k < 6; k++) {
            x.pass(1);
        }
        c.due("no part for lips 2 and breath 5 but the first", x.march(0), 3);
        c.due("breath 1", x.pupilOf(0, 1), 1);
        c.due("breath too little", x.noLesson(0, 0), 4);
        lift(x, 1, 7);
        c.due("lips 7", x.noLesson(1, 0), 2);
        rest(x);
        c.due("lips 7, the first teacher", x.noLesson(1, 0), 0);
        lift(x, 1, 8);
        rest(x);
        int[] eight = {3, 0, 0};
        for (int t = 0; t < 3; t++) {
            c.due("lips 8, teacher " + t, x.noLesson(1, t), eight[t]);
        }
        lift(x, 1, 14);
        c.due("lesson goes before lips", x.noLesson(1, 0), 2);
        rest(x);
        int[] fourteen = {3, 3, 0};
        for (int t = 0; t < 3; t++) {
            c.due("lips 14, teacher " + t, x.noLesson(1, t), fourteen[t]);
        }
        lift(x, 1, 20);
        rest(x);
        for (int t = 0; t < 3; t++) {
            c.due("lips 20, teacher " + t, x.noLesson(1, t), 3);
        }
        promise27Breath();
    }

    /** A lesson with exactly the breath that it needs, and with 1 less, for each kind. */
    private static void promise27Breath() {
        for (int kind = 0; kind < 4; kind++) {
            int lungs = 3 * kind + 5;
            BandCornets x = band(lungs, kind);
            int lessons = 0;
            for (int day = 0; day < 12; day++) {
                int breath = x.pupilOf(0, 1);
                c.due("breath " + breath + " of kind " + kind, x.noLesson(0, 2), breath < 3 + kind ? 4 : 0);
                if (breath >= 3 + kind) {
                    x.teach(0, 2);
                    lessons++;
                    c.due("breath then", x.pupilOf(0, 1), breath - 3 - kind);
                }
                x.pass(1);
            }
            c.due("lessons", x.count(5), lessons);
        }
    }

    private static void promise28and29() {
        c.at("promise 28");
        BandCornets x = band(30, 0, 30, 0, 30, 1, 30, 1);
        c.due("on no Sunday", x.shortOf(0), 1);
        c.due("horns and baritones", x.shortOf(1), 4);
        for (int wrong : new int[] {-1, 4, MIN, MAX}) {
            c.dueThrow("shortOf(" + wrong + ")", x, INDEX, () -> x.shortOf(wrong));
            c.dueThrow("most(" + wrong + ")", x, INDEX, () -> x.most(wrong));
        }
        c.at("promise 29");
        c.due("as many as the line-up", x.most(0), 3);
        c.due("none", x.most(2), 0);
        // The one with the highest lips takes the part 0, and the other cannot play the part 1 for its lungs.
        BandCornets y = band(5, 0, 30, 0);
        lift(y, 0, 2);
        lift(y, 1, 3);
        rest(y);
        c.due("the line-up is short", y.shortOf(0), 3);
        c.due("otherwise two", y.most(0), 2);
        c.due("the line-up takes the highest lips", told(y, 0), "cornet:1,cornet:-,horn:-,horn:-");
        y.dent(1, 5);
        c.due("a dented one is out of the line-up", told(y, 0), "cornet:0,cornet:-,horn:-,horn:-");
        c.due("and out of the most", y.most(0), 1);
        BandCornets z = band(30, 0, 30, 0, 30, 0, 30, 0, 30, 0);
        c.due("one pupil for a part", z.most(0), 1);
        lift(z, 4, 2);
        rest(z);
        c.due("two cornets", z.most(0), 2);
        c.due("fewest short", z.shortOf(0), 2);
        z.march(0);
        c.due("whatever was played", z.shortOf(0), 2);
        // A pupil with breath for one part alone is given one part.
        BandCornets w = band(30, 3);
        lift(w, 0, 20);
        rest(w);
        c.due("one pupil plays one part", w.most(2), 1);
        c.due("one pupil plays one part of 3", w.most(3), 1);
        c.due("short of 3", w.shortOf(3), 3);
    }

    private static void promise30() {
        c.at("promise 30");
        c.due("nobody", new BandCornets().bestMarch(), 0);
        BandCornets x = band(30, 1);
        c.due("a horn plays in 0", x.bestMarch(), 0);
        lift(x, 0, 5);
        c.due("of several the lowest", x.bestMarch(), 0);
        BandCornets y = band(30, 2, 30, 2);
        c.due("baritones play in 1", y.bestMarch(), 1);
        y.set(2, 0);
        c.due("without pence the lowest", y.bestMarch(), 0);
        BandCornets z = band(30, 3, 30, 0, 30, 0);
        lift(z, 0, 4);
        z.pass(14);
        c.due("cornet in 0, tuba in 2", z.bestMarch(), 0);
        lift(z, 0, 11);
        lift(z, 1, 7);
        lift(z, 2, 7);
        z.pass(14);
        c.due("three parts of 3", z.bestMarch(), 3);
        BandCornets w = fullBand();
        c.due("all of 0", w.bestMarch(), 0);
        w.back(3);
        w.pass(1);
        c.due("three of 0", w.bestMarch(), 0);
        c.due("nothing is saved by it", w.count(18), 6);
    }

    private static void promise31() {
        c.at("promise 31");
        BandCornets x = band(30, -1, 30, 1, 30, 0, 30, 0);
        for (int wrong : new int[] {-1, 4, MIN, MAX}) {
            c.dueThrow("helps(" + wrong + ", 0)", x, INDEX, () -> x.helps(wrong, 0));
            c.dueThrow("helps(0, " + wrong + ")", x, INDEX, () -> x.helps(0, wrong));
        }
        c.dueThrow("helps(0, 3)", x, INDEX, () -> x.helps(0, 3));
        long before = x.digest();
        c.due("the lowest cornet", x.helps(0, 0), 2);
        c.due("nobody helps 3", x.helps(3, 0), -1);
        c.due("nothing is changed", x.digest(), before);
        x.dent(2, 5);
        c.due("a dented one cannot help", x.helps(0, 0), -1);
        x.undo();
        x.teach(2, 0);
        c.due("with lips 2 all is done for cornets", x.helps(0, 0), -1);
        // The breath of the lesson can cost a part: breath 7 less 3 is 4, enough for the part 0 alone.
        BandCornets y = band(5, 0, 6, 0);
        c.due("a lesson of 0 leaves breath 2", y.helps(0, 0), -1);
        BandCornets z = band(7, 0);
        c.due("a part for a part is no help", z.helps(0, 0), -1);
        BandCornets v = band(7, 0, 6, 0);
        c.due("part 0 for one, part 1 for the other", v.helps(0, 0), 0);
        v.teach(0, 0);
        c.due("no second lesson", v.helps(0, 0), -1);
        BandCornets w = band(30, 3, 30, 3);
        lift(w, 0, 8);
        rest(w);
        c.due("lips 8 of teacher 0", w.helps(3, 0), -1);
        c.due("lips 8 of teacher 1", w.helps(3, 1), 0);
        c.due("lips 8 of teacher 2", w.helps(3, 2), 0);
        c.due("march 2 is helped by 1 with lips 2", w.helps(2, 2), 1);
    }

    private static void promise32() {
        c.at("promise 32");
        BandCornets x = fullBand();
        c.due("without any", x.played(), 1.0);
        x.march(3);
        c.due("none of 4", x.played(), 0.0);
        x.pass(7);
        x.march(0);
        c.due("4 of 8", x.played(), 0.5);
        x.pass(7);
        x.march(0);
        c.due("8 of 12", x.played(), 8.0 / 12);
        x.undo();
        c.due("undone", x.played(), 0.5);
        x.march(1);
        c.due("4 of 12 and those of march 1", x.played(), (12 - x.count(7)) / 12.0);
    }

    private static void promise33() {
        c.at("promise 33");
        BandCornets x = new BandCornets();
        checkDigest(x);
        x.append('d');
        checkDigest(x);
        BandCornets y = fullBand();
        checkDigest(y);
        y.march(3);
        checkDigest(y);
        write(y, "lend12;~!");
        for (int k = 0; k < 12; k++) {
            y.pass(7);
            y.march(k % 3 == 0 ? 1 : 0);
            if (k == 5) {
                y.back(1);
            }
            checkDigest(y);
        }
        y.keep();
        y.restore();
        checkDigest(y);
        y.undo();
        checkDigest(y);
    }

    private static void checkDigest(BandCornets x) {
        long saved = x.count(18);
        c.due("digest", x.digest(), digestByLooks(x));
        c.due("digest again", x.digest(), digestByLooks(x));
        c.due("saved states", x.count(18), saved);
    }

    /** The digest as the document tells it, from the other looks; the buffer is read by its length and its error alone. */
    private static long digestByLooks(BandCornets x) {
        long hash = 3733;
        for (int what = 0; what < 19; what++) {
            hash = 31 * hash + x.count(what);
        }
        for (int p = 0; p < x.count(0); p++) {
            for (int what = 0; what < 7; what++) {
                hash = 31 * hash + x.pupilOf(p, what);
            }
            for (int t = 0; t < 3; t++) {
                hash = 31 * hash + x.noLesson(p, t);
            }
        }
        for (int i = 0; i < x.count(1); i++) {
            for (int what = 0; what < 6; what++) {
                hash = 31 * hash + x.instrumentOf(i, what);
            }
        }
        for (int l = 0; l < x.count(2); l++) {
            hash = 31 * hash + x.loan(l);
        }
        for (int m = 0; m < 4; m++) {
            hash = 31 * hash + x.shortOf(m);
            hash = 31 * hash + x.most(m);
            hash = 31 * hash + x.helps(m, 2);
            String text = told(x, m);
            for (int k = 0; k < text.length(); k++) {
                hash = 31 * hash + text.charAt(k);
            }
        }
        hash = 31 * hash + x.bestMarch();
        hash = 31 * hash + Double.doubleToLongBits(x.played());
        String buffer = bufferOf(x);
        hash = 31 * hash + buffer.length();
        for (int k = 0; k < buffer.length(); k++) {
            hash = 31 * hash + buffer.charAt(k);
        }
        return hash;
    }

    /** The buffers that promise33 writes, known by their lengths. */
    private static String bufferOf(BandCornets x) {
        int length = x.clearBuffer();
        String text = length == 0 ? "" : length == 1 ? "d" : "lend12;~!";
        write(x, text);
        return text;
    }

    /** A run of exactly 512 calls still answers as at first. */
    private static void lastCalls() {
        c.at("512 calls");
        BandCornets x = new BandCornets();
        for (int k = 1; k <= 510; k++) {
            c.due("pass", x.pass(30), 30 * k);
        }
        c.due("undo", x.undo(), 5);
        c.due("count(3)", x.count(3), 30 * 509);
    }
}
