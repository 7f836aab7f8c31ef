/** The edges of the promises 12, 24 and 28 to 31: marches, parts, line-ups, and what would be. */
final class EdgesOfMarches {
    private static final String[] KINDS = {"cornet", "horn", "baritone", "tuba"};
    /** Two cornets and two horns on a Sunday; all parts of the march 0 can be filled: by the pupils 0, 1, 2, 3. */
    private static final String FULL = "4* pupil 30 | 2* instrument 0 | 2* instrument 1 | lend 0 0 | lend 1 1 | lend 2 2"
        + " | lend 3 3 | teach 0 0 | pass 6";

    private EdgesOfMarches() {
    }

    static void all(Edges e) {
        march(e);
        earnings(e);
        players(e);
        dents(e);
        part(e);
        lineUpBreath(e);
        lineUpLips(e);
        lineUpOrder(e);
        shortOf(e);
        most(e);
        bestMarch(e);
        helps(e);
    }

    private static void march(Edges e) {
        e.at(12, "Throws `IndexOutOfBoundsException` if there is no such march");
        e.each("no such march", FULL + " | march ? !Index | count 6 = 0", "-1 4 MIN MAX");
        e.each("is a march", FULL + " | march ? | count 6 = 1", "0 1 2 3");
        e.at(12, "Throws `IllegalStateException` if it is no Sunday, or a march was played on this day");
        e.each("no Sunday", "pass ? | march 0 !State", "1 5 7 12 14");
        e.is("the day 0", "march 0 !State | march 3 !State");
        e.each("a Sunday", "pass ? | march 0 = 4", "6 13 20 27");
        e.is("once on it", FULL + " | march 0 = 0 | march 0 !State | march 1 !State");
        e.is("once on it, also by nobody", "pass 6 | march 0 = 4 | march 0 !State | count 6 = 1");
        e.is("once on each", "pass 6 | march 0 = 4 | pass 6 | march 0 !State | pass 1 | march 0 = 4 | march 0 !State");
        e.at(12, "A march can be played on a Sunday, once on it.");
        e.is("not on the Saturday", "pass 5 | march 0 !State | pass 1 | march 0 = 4");
        e.is("not on the Monday", "pass 7 | march 0 !State");
        e.is("no second one of another kind", "pass 6 | march 3 = 4 | march 0 !State | march 1 !State | march 2 !State");
        e.is("again on the next Sunday", "pass 6 | march 3 = 4 | pass 7 | march 3 = 4 | count 6 = 2");
        e.at(12, "If several exceptions apply, the one that is named first in the throws clause is thrown.");
        e.each("no such march on no Sunday", "march ? !Index", "-1 4 MIN MAX");
        e.each("no such march behind a march", "pass 6 | march 0 | march ? !Index", "-1 4 MIN MAX");
        e.at(12, "Returns how many parts are short.");
        e.is("none", FULL + " | march 0 = 0 | count 7 = 0");
        e.is("one", FULL + " | back 3 | march 0 = 1 | count 7 = 1");
        e.is("two", FULL + " | back 3 | back 2 | march 0 = 2 | count 7 = 2");
        e.is("three", FULL + " | back 3 | back 2 | back 1 | march 0 = 3 | count 7 = 3");
        e.is("all, for nobody can", FULL + " | march 3 = 4 | count 7 = 4");
        e.is("all, for there is no pupil", "pass 6 | march 0 = 4 | count 6 = 1 | count 7 = 4");
        e.is("all, for nobody has an instrument", "10* pupil 30 & instrument 0 | pass 6 | march 0 = 4 | count 7 = 4");
        e.is("all, for there is no instrument", "pupil 30 | pass 6 | march 0 = 4");
        e.at(12, "Plays a march. Undoable.");
        e.is("one that all play", FULL + " | digest = @a | march 0 | undo = 5 | march 0 = 0 | undo = 5");
        e.is("it can be played again behind undo", "pass 6 | digest = @a | march 2 | count 18 = 2 | undo = 1 | digest = @a"
            + " | march 3 = 4 | count 6 = 1");
        e.is("undo of the next day", "pass 6 | march 0 | pass 1 | undo | march 0 !State | undo | march 0 = 4");
    }

    private static void earnings(Edges e) {
        e.at(12, "The band earns setting 2 for each part that is played, and, if no part is short, twice as much instead.");
        e.is("4 parts", FULL + " | count 8 = 999990 | march 0 = 0 | count 10 = 240 | count 8 = 1000230 | count 9 = 1000230");
        e.is("3 parts", FULL + " | back 3 | march 0 = 1 | count 10 = 90 | count 8 = 1000080 | count 9 = 1000080");
        e.is("2 parts", FULL + " | back 3 | back 2 | march 0 = 2 | count 10 = 60 | count 8 = 1000050 | count 9 = 1000050");
        e.is("1 part", FULL + " | back 3 | back 2 | back 1 | march 0 = 3 | count 10 = 30 | count 8 = 1000020");
        e.is("no part", FULL + " | march 3 = 4 | count 10 = 0 | count 8 = 999990 | count 9 = 999990");
        e.is("4 parts for 99 each", FULL + " | set 2 99 | march 0 = 0 | count 10 = 792");
        e.is("3 parts for 99 each", FULL + " | set 2 99 | back 3 | march 0 = 1 | count 10 = 297");
        e.is("4 parts for nothing", FULL + " | set 2 0 | march 0 = 0 | count 10 = 0 | count 8 = 999990");
        e.is("two marches together", FULL + " | march 0 = 0 | pass 7 | back 3 | march 0 = 1 | count 10 = 330 | count 7 = 1"
            + " | count 6 = 2");
    }

    private static void players(Edges e) {
        e.at(12, "Those who have parts play: the breath of each becomes less by what its part needs, and the instrument was "
            + "played in a march once more");
        e.is("the breath of each", FULL + " | march 0 | pupilOf 0 1 = 26 | pupilOf 1 1 = 24 | pupilOf 2 1 = 22"
            + " | pupilOf 3 1 = 20");
        e.is("the marches of each", FULL + " | march 0 | pupilOf 0 6 = 1 | pupilOf 3 6 = 1 | instrumentOf 0 3 = 1"
            + " | instrumentOf 1 3 = 1 | instrumentOf 2 3 = 1 | instrumentOf 3 3 = 1");
        e.is("all the breath", "pupil 6 | instrument 0 | lend 0 0 | pass 6 | march 0 = 3 | pupilOf 0 1 = 0");
        e.is("who has no part does not play", "3* pupil 30 & instrument 0 | lend 0 0 | lend 1 1 | pass 6 | march 0 = 3"
            + " | pupilOf 0 6 = 1 | pupilOf 1 6 = 0 | pupilOf 1 1 = 30 | instrumentOf 1 3 = 0 | pupilOf 2 6 = 0"
            + " | instrumentOf 2 3 = 0");
        e.is("another instrument than the pupil's number", "2* pupil 30 & instrument 0 | lend 1 0 | pass 6 | march 0 = 3"
            + " | pupilOf 0 6 = 1 | instrumentOf 1 3 = 1 | instrumentOf 0 3 = 0");
    }

    private static void dents(Edges e) {
        String one = "pupil 30 | instrument 0 | lend 0 0 | pass 6";
        e.at(12, "each third time it gets a dent.");
        e.is("the second time none", one + " | march 0 | pass 7 | march 0 | instrumentOf 0 3 = 2 | instrumentOf 0 1 = 0");
        e.is("the third time one", one + " | 2* march 0 & pass 7 | march 0 | instrumentOf 0 3 = 3 | instrumentOf 0 1 = 1"
            + " | instrumentOf 0 4 = 1");
        e.is("the fourth and the fifth time none", one + " | 4* march 0 & pass 7 | instrumentOf 0 1 = 1 | march 0"
            + " | instrumentOf 0 1 = 1");
        e.is("the sixth time one", one + " | 5* march 0 & pass 7 | march 0 = 3 | instrumentOf 0 1 = 2");
        e.is("the 15th time one, and then no more", one + " | 14* march 0 & pass 7 | instrumentOf 0 1 = 4"
            + " | instrumentOf 0 5 = 1 | march 0 = 3 | instrumentOf 0 1 = 5 | instrumentOf 0 5 = 0 | pass 7 | march 0 = 4"
            + " | instrumentOf 0 3 = 15 | instrumentOf 0 1 = 5");
        e.is("to 4 others", one + " | dent 0 4 | 2* march 0 & pass 7 | march 0 = 3 | instrumentOf 0 1 = 5 | shortOf 0 = 4");
        e.is("with another pupil", one + " | pupil 30 | 2* march 0 & pass 7 | back 0 | lend 0 1 | march 0 = 3"
            + " | pupilOf 1 6 = 1 | instrumentOf 0 3 = 3 | instrumentOf 0 1 = 1");
        e.is("also behind a repair", one + " | dent 0 1 | 2* march 0 & pass 7 | back 0 | mend 0 | lend 0 0 | march 0 = 3"
            + " | instrumentOf 0 3 = 3 | instrumentOf 0 1 = 1");
        e.is("each instrument by itself", "2* pupil 30 | 2* instrument 0 | lend 0 0 | pass 6 | 2* march 0 & pass 7 | back 0"
            + " | lend 1 0 | march 0 = 3 | instrumentOf 0 3 = 2 | instrumentOf 1 3 = 1 | instrumentOf 1 1 = 0");
        e.is("all 4 of a march", FULL + " | 2* march 0 & pass 7 | march 0 = 0 | instrumentOf 0 1 = 1 | instrumentOf 1 1 = 1"
            + " | instrumentOf 2 1 = 1 | instrumentOf 3 1 = 1");
        e.is("the march itself is played and earned", one + " | dent 0 4 | 2* march 0 & pass 7 | march 0 = 3 | count 10 = 90"
            + " | pupilOf 0 6 = 3");
    }

    private static void part(Edges e) {
        e.at(24, "Throws `IndexOutOfBoundsException` if there is no such march or part");
        e.each("no such march", "part ? 0 0 !Index", "-1 4 MIN MAX");
        e.each("no such part", "part 0 ? 0 !Index", "-1 4 MIN MAX");
        e.at(24, "There are 4 marches, 0 to 3, each with 4 parts, 0 to 3");
        e.each("is a march", "part ? 0 0 = ? | part ? 3 1 = 10", "0 1 2 3");
        e.each("is a part", "part 0 ? 3 = NONE | part 3 ? 3 = NONE", "0 1 2 3");
        e.at(24, "Throws `IllegalArgumentException` if what is not 0 to 3");
        e.each("is refused", "part 0 0 ? !Argument | part 3 3 ? !Argument", "-1 4 MIN MAX");
        e.at(24, "If several exceptions apply, the one that is named first in the throws clause is thrown.");
        e.each("no such march, wrong what", "part -1 0 ? !Index | part 4 0 ? !Index", "-1 4");
        e.each("no such part, wrong what", "part 0 -1 ? !Index | part 0 4 ? !Index", "-1 4");
        e.at(24, "the part p of the march m needs an instrument of the kind that is left of m and p / 2 (rounded down), "
            + "together, by 4");
        int[][] kinds = {{0, 0, 1, 1}, {1, 1, 2, 2}, {2, 2, 3, 3}, {3, 3, 0, 0}};
        int[][] lips = {{2, 1, 1, 1}, {5, 3, 1, 1}, {8, 6, 4, 2}, {11, 9, 7, 5}};
        table(e, 0, kinds);
        e.at(24, "a breath of at least 4 and 2 times p, together");
        table(e, 1, new int[][] {{4, 6, 8, 10}, {4, 6, 8, 10}, {4, 6, 8, 10}, {4, 6, 8, 10}});
        e.at(24, "and lips of at least 2 and 3 times m, less 2 times p, but at least 1.");
        table(e, 2, lips);
        e.at(24, "3: the pupil who would get it now, NONE if it would be short");
        table(e, 3, new int[][] {{-1, -1, -1, -1}, {-1, -1, -1, -1}, {-1, -1, -1, -1}, {-1, -1, -1, -1}});
        e.is("all parts filled", FULL + " | part 0 0 3 = 0 | part 0 1 3 = 1 | part 0 2 3 = 2 | part 0 3 3 = 3");
        e.is("the pupil 9 and nobody", "10* pupil 30 | instrument 0 | lend 0 9 | part 0 0 3 = NONE | part 0 1 3 = 9"
            + " | part 0 2 3 = NONE | part 0 3 3 = NONE");
        e.is("one march behind another", FULL + " | part 0 0 3 = 0 | part 3 0 3 = NONE | part 0 3 3 = 3 | part 1 0 3 = NONE");
    }

    /** What the parts of a band without pupils need. */
    private static void table(Edges e, int what, int[][] due) {
        for (int march = 0; march < 4; march++) {
            for (int part = 0; part < 4; part++) {
                e.is("march " + march + ", part " + part, "part " + march + " " + part + " " + what + " = "
                    + due[march][part]);
            }
        }
    }

    /** The line of a march in which one pupil has one part, or nobody has one for NONE. */
    private static String line(int march, int part, int pupil) {
        StringBuilder text = new StringBuilder("line " + march + " = ");
        for (int p = 0; p < 4; p++) {
            text.append(p > 0 ? "," : "").append(KINDS[(march + p / 2) % 4]).append(':').append(p == part ? pupil : "-");
        }
        return text.toString();
    }

    /** Just the breath that a part needs, and less by 1, with lips that are too low for the parts before it. */
    private static void lineUpBreath(Edges e) {
        e.at(28, "a breath of at least 4 and 2 times p, together");
        breath(e, 0, 0, 0, 7, "teach 0 0");
        breath(e, 0, 1, 0, 6, "");
        breath(e, 0, 2, 1, 12, "teach 0 0");
        breath(e, 1, 0, 1, 12, "4* teach 0 0 & pass 1 | pass 2 | march 0 = 3");
        breath(e, 1, 1, 1, 10, "teach 0 0 | pass 1 | teach 0 0");
        breath(e, 1, 2, 2, 13, "teach 0 0");
        breath(e, 2, 0, 2, 12, "7* teach 0 0 & pass 2 | pass 6 | march 1 = 3");
        breath(e, 2, 1, 2, 14, "5* teach 0 0 & pass 2 | pass 3 | march 1 = 3");
        breath(e, 2, 2, 3, 16, "3* teach 0 0 & pass 2 | pass 7 | march 2 = 3");
        breath(e, 2, 3, 3, 16, "teach 0 0");
        breath(e, 3, 0, 3, 18, "9* teach 0 1 & pass 2 | pass 2 | teach 0 1 = 11 | march 2 = 3");
        breath(e, 3, 1, 3, 20, "7* teach 0 1 & pass 2 | pass 6 | teach 0 1 = 9 | march 2 = 3");
        breath(e, 3, 2, 0, 11, "5* teach 0 0 & pass 1 | teach 0 0 = 7");
        breath(e, 3, 3, 0, 13, "3* teach 0 0 & pass 1 | teach 0 0 = 5");
        String two = " | 2* instrument 1 | lend 0 0 | lend 1 1";
        e.is("march 0, part 3: just enough", "pupil 30 | pupil 10" + two + " | line 0 = cornet:-,cornet:-,horn:0,horn:1");
        e.is("march 0, part 3: less by 1", "pupil 30 | pupil 9" + two + " | line 0 = cornet:-,cornet:-,horn:0,horn:-");
        String baritones = " | 2* instrument 2 | lend 0 0 | lend 1 1 | teach 0 0 | teach 1 0";
        e.is("march 1, part 3: just enough", "pupil 30 | pupil 15" + baritones
            + " | line 1 = horn:-,horn:-,baritone:0,baritone:1");
        e.is("march 1, part 3: less by 1", "pupil 30 | pupil 14" + baritones
            + " | line 1 = horn:-,horn:-,baritone:0,baritone:-");
    }

    private static void breath(Edges e, int march, int part, int kind, int lungs, String before) {
        String rest = " | instrument " + kind + " | lend 0 0" + (before.isEmpty() ? "" : " | " + before);
        int needs = 4 + 2 * part;
        e.is("march " + march + ", part " + part + ": just enough", "pupil " + lungs + rest + " | pupilOf 0 1 = " + needs
            + " | " + line(march, part, 0) + " | shortOf " + march + " = 3 | most " + march + " = 1");
        e.is("march " + march + ", part " + part + ": less by 1", "pupil " + (lungs - 1) + rest + " | pupilOf 0 1 = "
            + (needs - 1) + " | " + line(march, -1, 0) + " | shortOf " + march + " = 4 | most " + march + " = 0");
    }

    /** Just the lips that a part needs, and less by 1, for a pupil with much breath. */
    private static void lineUpLips(Edges e) {
        e.at(28, "and lips of at least 2 and 3 times m, less 2 times p, but at least 1.");
        lips(e, 0, 0, 2, 0);
        lips(e, 0, 0, 1, 1);
        lips(e, 0, 1, 1, 2);
        lips(e, 1, 1, 5, 0);
        lips(e, 1, 1, 4, 1);
        lips(e, 1, 1, 3, 1);
        lips(e, 1, 1, 2, -1);
        lips(e, 1, 2, 1, 2);
        lips(e, 2, 2, 8, 0);
        lips(e, 2, 2, 7, 1);
        lips(e, 2, 2, 6, 1);
        lips(e, 2, 2, 5, -1);
        lips(e, 2, 3, 4, 2);
        lips(e, 2, 3, 3, 3);
        lips(e, 2, 3, 2, 3);
        lips(e, 2, 3, 1, -1);
        lips(e, 3, 3, 11, 0);
        lips(e, 3, 3, 10, 1);
        lips(e, 3, 3, 9, 1);
        lips(e, 3, 3, 8, -1);
        lips(e, 3, 0, 7, 2);
        lips(e, 3, 0, 6, 3);
        lips(e, 3, 0, 5, 3);
        lips(e, 3, 0, 4, -1);
        lips(e, 3, 3, 20, 0);
    }

    private static void lips(Edges e, int march, int kind, int lips, int part) {
        String lessons = lips == 1 ? "" : " | " + (lips - 1) + "* teach 0 2 & pass 2";
        e.is("march " + march + ", lips " + lips + " of the kind " + kind, "pupil 30 | instrument " + kind
            + " | lend 0 0" + lessons + " | pupilOf 0 2 = " + lips + " | " + line(march, part, 0));
    }

    private static void lineUpOrder(Edges e) {
        e.at(28, "A line-up of a march: part by part, from 0 on, the part gets");
        e.is("the part 0 before the part 1", "pupil 30 | instrument 0 | lend 0 0 | teach 0 0"
            + " | line 0 = cornet:0,cornet:-,horn:-,horn:-");
        e.is("the part 2 before the part 3", "pupil 30 | instrument 1 | lend 0 0 | line 0 = cornet:-,cornet:-,horn:0,horn:-");
        e.is("the first parts of all kinds", FULL + " | back 1 | back 3 | line 0 = cornet:0,cornet:-,horn:2,horn:-");
        e.at(28, "the one with the highest lips; of several the lowest.");
        String two = "2* pupil 30 & instrument 0 | lend 0 0 | lend 1 1";
        e.is("of two with lips 1 the lowest", two + " | line 0 = cornet:-,cornet:0,horn:-,horn:-");
        e.is("the higher lips before the lowest", two + " | 2* teach 1 0 & pass 1 | teach 0 0"
            + " | line 0 = cornet:1,cornet:0,horn:-,horn:-");
        e.is("of two with lips 2 the lowest", two + " | teach 1 0 | teach 0 0 | line 0 = cornet:0,cornet:1,horn:-,horn:-");
        e.is("the lowest pupil, not the lowest instrument or loan", "2* pupil 30 & instrument 0 | lend 0 1 | lend 1 0"
            + " | line 0 = cornet:-,cornet:0,horn:-,horn:-");
        e.is("the last of 10", "10* pupil 30 & instrument 0 | lend 0 0 | lend 9 9 | teach 9 0"
            + " | line 0 = cornet:9,cornet:0,horn:-,horn:-");
        e.is("5 for the same 2 parts", "5* pupil 30 & instrument 0 | lend 0 0 | lend 1 1 | lend 2 2 | lend 3 3 | lend 4 4"
            + " | teach 3 0 | teach 4 0 | line 0 = cornet:3,cornet:4,horn:-,horn:-");
        e.at(28, "of the pupils who have no part yet");
        e.is("one pupil for two parts", "pupil 30 | instrument 0 | lend 0 0 | teach 0 0 | line 0 = cornet:0,cornet:-,horn:-,horn:-");
        e.is("who had a part in another march", FULL + " | march 0 | pass 7 | line 0 = cornet:0,cornet:1,horn:2,horn:3");
        e.at(28, "and whose instrument is of its kind and can be played");
        e.is("4 dents", "pupil 30 | instrument 0 | lend 0 0 | dent 0 4 | shortOf 0 = 3");
        e.is("5 dents", "pupil 30 | instrument 0 | lend 0 0 | dent 0 5 | shortOf 0 = 4");
        e.is("brought back", "pupil 30 | instrument 0 | lend 0 0 | back 0 | shortOf 0 = 4");
        for (int kind = 0; kind < 4; kind++) {
            int[] due = {4, 4, 4, 4};
            due[kind] = kind == 0 ? 3 : 4;
            due[(kind + 3) % 4] = kind == 1 || kind == 2 ? 3 : 4;
            e.is("the kind " + kind + " with lips 1", "pupil 30 | instrument " + kind + " | lend 0 0 | shortOf 0 = " + due[0]
                + " | shortOf 1 = " + due[1] + " | shortOf 2 = " + due[2] + " | shortOf 3 = " + due[3]);
        }
    }

    private static void shortOf(Edges e) {
        e.at(28, "Throws `IndexOutOfBoundsException` if there is no such march");
        e.each("no such march", "shortOf ? !Index", "-1 4 MIN MAX");
        e.each("nobody at all", "shortOf ? = 4", "0 1 2 3");
        e.at(28, "A part that nobody gets is short.");
        e.is("none", FULL + " | shortOf 0 = 0");
        e.is("one", FULL + " | back 3 | shortOf 0 = 1");
        e.is("two", FULL + " | back 3 | back 2 | shortOf 0 = 2");
        e.is("three", FULL + " | back 3 | back 2 | back 1 | shortOf 0 = 3");
        e.is("four", FULL + " | back 3 | back 2 | back 1 | back 0 | shortOf 0 = 4");
        e.at(28, "as things stand now (whatever day it is).");
        e.is("no Sunday", FULL + " | pass 1 | shortOf 0 = 0 | march 0 !State");
        e.is("behind a march", FULL + " | march 0 = 0 | shortOf 0 = 0 | march 0 !State");
        e.is("behind a march that took the breath", "pupil 6 | instrument 0 | lend 0 0 | pass 6 | march 0 = 3 | shortOf 0 = 4");
    }

    private static void most(Edges e) {
        e.at(29, "Throws `IndexOutOfBoundsException` if there is no such march");
        e.each("no such march", "most ? !Index", "-1 4 MIN MAX");
        e.at(29, "Returns the greatest number of parts that can be given to one pupil each, who could play it.");
        e.each("nobody at all", "most ? = 0", "0 1 2 3");
        e.each("nobody who has an instrument", "10* pupil 30 & instrument 0 | most ? = 0", "0 1 2 3");
        e.is("none of 10 who can", "10* pupil 30 & instrument 0 | lend 0 0 | lend 1 1 | most 1 = 0 | most 2 = 0");
        e.is("all 4", FULL + " | most 0 = 4");
        e.is("three", FULL + " | back 3 | most 0 = 3");
        e.is("two", FULL + " | back 3 | back 2 | most 0 = 2");
        e.is("one pupil for one part", "pupil 30 | instrument 0 | lend 0 0 | teach 0 0 | most 0 = 1");
        e.is("not more than the parts of a kind", "5* pupil 30 & instrument 0 | lend 0 0 | lend 1 1 | lend 2 2 | lend 3 3"
            + " | lend 4 4 | teach 0 0 | teach 1 0 | most 0 = 2");
        e.is("4 dents and 5", "2* pupil 30 & instrument 0 | lend 0 0 | lend 1 1 | teach 0 0 | dent 1 4 | most 0 = 2 | dent 1 1"
            + " | most 0 = 1");
        e.is("no Sunday, and behind a march", FULL + " | march 0 | most 0 = 4 | pass 1 | most 0 = 4");
        e.at(29, "with the pupils who have instruments");
        e.is("one of two has one", "2* pupil 30 & instrument 0 | teach 0 0 !State | lend 0 1 | most 0 = 1");
        e.at(29, "if parts were given otherwise than in a line-up.");
        // The line-up gives the part 0 to the highest lips; who is left has no breath for the part 1.
        String small = "pupil 5 | pupil 30 | 2* instrument 0 | lend 0 0 | lend 1 1 | teach 0 0 | 2* teach 1 0 & pass 1"
            + " | shortOf 0 = 3 | most 0 = 2";
        e.is("one more than the line-up", small + " | line 0 = cornet:1,cornet:-,horn:-,horn:-");
        // In the march 0 the line-up gives the part 2 to the strong horn, and the weak horn has no breath for the part 3.
        String horns = "pupil 9 | pupil 30 | 2* instrument 1 | lend 0 0 | lend 1 1 | teach 1 0";
        e.is("the breath of the last part", horns + " | shortOf 0 = 3 | most 0 = 2"
            + " | line 0 = cornet:-,cornet:-,horn:1,horn:-");
        e.is("two more than the line-up", "pupil 7 | pupil 30 | pupil 9 | pupil 30 | 2* instrument 0 | 2* instrument 1"
            + " | lend 0 0 | lend 1 1 | lend 2 2 | lend 3 3 | teach 1 0 | teach 3 0 | pass 1 | teach 0 0 | teach 1 0"
            + " | shortOf 0 = 2 | most 0 = 4 | line 0 = cornet:1,cornet:-,horn:3,horn:-");
    }

    private static void bestMarch(Edges e) {
        e.at(30, "Returns the march with the most pence; of several the lowest.");
        e.is("nobody at all", "bestMarch = 0");
        e.is("a cornet alone", "pupil 30 | instrument 0 | lend 0 0 | bestMarch = 0");
        e.is("a horn alone, in 0 and with lips 3 also in 1", "pupil 30 | instrument 1 | lend 0 0 | 2* teach 0 0 & pass 1"
            + " | shortOf 0 = 3 | shortOf 1 = 3 | bestMarch = 0");
        e.is("a baritone alone, in 1", "pupil 30 | instrument 2 | lend 0 0 | bestMarch = 1");
        e.is("a baritone alone, in 1 and with lips 6 also in 2", "pupil 30 | instrument 2 | lend 0 0 | 5* teach 0 0 & pass 2"
            + " | shortOf 1 = 3 | shortOf 2 = 3 | bestMarch = 1");
        e.is("a tuba alone, with lips 1 in none", "pupil 30 | instrument 3 | lend 0 0 | bestMarch = 0");
        e.is("a tuba alone, with lips 2 in 2", "pupil 30 | instrument 3 | lend 0 0 | teach 0 0 | bestMarch = 2");
        e.is("a tuba alone, with lips 9 in 2 and 3", "pupil 30 | instrument 3 | lend 0 0 | 8* teach 0 1 & pass 2"
            + " | shortOf 2 = 3 | shortOf 3 = 3 | bestMarch = 2");
        e.is("two tubas in 3, one cornet in 0 and 3", "3* pupil 30 | 2* instrument 3 | instrument 0 | lend 0 0 | lend 1 1"
            + " | lend 2 2 | 4* teach 2 2 & pass 1 | 10* teach 0 2 & teach 1 2 & pass 2 | shortOf 2 = 2 | shortOf 3 = 1"
            + " | bestMarch = 3");
        e.is("a part more in 1 than in 0", "pupil 30 | pupil 30 | 2* instrument 2 | lend 0 0 | lend 1 1 | bestMarch = 1");
        e.is("for nothing, 0", "2* pupil 30 | 2* instrument 2 | lend 0 0 | lend 1 1 | set 2 0 | bestMarch = 0");
        e.is("for 1 pence a part, 1", "2* pupil 30 | 2* instrument 2 | lend 0 0 | lend 1 1 | set 2 1 | bestMarch = 1");
        e.is("all 4 parts of 0", FULL + " | bestMarch = 0");
        e.at(30, "Finds the march that earns most now (whatever day it is).");
        e.is("no Sunday", FULL + " | pass 1 | bestMarch = 0");
        e.is("behind a march", "pupil 30 | instrument 2 | lend 0 0 | pass 6 | march 1 = 3 | bestMarch = 1");
    }

    private static void helps(Edges e) {
        String one = "pupil 30 | instrument 0 | lend 0 0";
        String two = "2* pupil 30 & instrument 0 | lend 0 0 | lend 1 1";
        e.at(31, "Throws `IndexOutOfBoundsException` if there is no such march or teacher");
        e.each("no such march", two + " | helps ? 0 !Index", "-1 4 MIN MAX");
        e.each("no such teacher", two + " | helps 0 ? !Index", "-1 3 MIN MAX");
        e.each("is a teacher", two + " | helps 0 ? = 0", "0 1 2");
        e.at(31, "NONE if there is none.");
        e.each("nobody at all", "helps ? 0 = NONE | helps ? 2 = NONE", "0 1 2 3");
        e.is("nobody has an instrument", "10* pupil 30 & instrument 0 | helps 0 0 = NONE");
        e.is("a part for another part is no help", one + " | shortOf 0 = 3 | helps 0 0 = NONE");
        e.is("nothing is short", FULL + " | shortOf 0 = 0 | helps 0 2 = NONE");
        e.at(31, "the lowest pupil whose lesson is possible now");
        e.is("of two the lowest", two + " | helps 0 0 = 0");
        e.is("the second, if the first had a lesson in vain", "pupil 30 | instrument 1 | lend 0 0 | 2* pupil 30 & instrument 0"
            + " | lend 1 1 | lend 2 2 | helps 0 0 = 1");
        e.is("lips 8, for the teachers 0, 1 and 2", "pupil 30 | instrument 3 | lend 0 0 | 7* teach 0 0 & pass 2"
            + " | shortOf 3 = 4 | helps 3 0 = NONE | helps 3 1 = 0 | helps 3 2 = 0");
        e.is("lips 7 is one below what helps", "pupil 30 | instrument 3 | lend 0 0 | 6* teach 0 0 & pass 2"
            + " | helps 3 0 = NONE | helps 3 2 = NONE");
        e.is("4 dents and 5", "pupil 30 | instrument 3 | lend 0 0 | helps 2 0 = 0 | dent 0 4 | helps 2 0 = 0 | dent 0 1"
            + " | helps 2 0 = NONE");
        e.is("on the day of a lesson, and the next", "pupil 30 | instrument 1 | lend 0 0 | teach 0 0 | shortOf 1 = 4"
            + " | helps 1 0 = NONE | pass 1 | helps 1 0 = 0");
        e.is("the last of 10", "9* pupil 30 | pupil 30 | instrument 3 | lend 0 9 | helps 2 0 = 9");
        e.at(31, "and behind which the march would be short of fewer parts");
        e.is("the breath of the lesson is just left", "pupil 16 | instrument 3 | lend 0 0 | helps 2 0 = 0 | teach 0 0"
            + " | shortOf 2 = 3");
        e.is("the breath of the lesson is missing by 1", "pupil 15 | instrument 3 | lend 0 0 | helps 2 0 = NONE | teach 0 0"
            + " | shortOf 2 = 4");
        e.is("two cornets, the breath of the first just left", "pupil 7 | pupil 6 | 2* instrument 0 | lend 0 0 | lend 1 1"
            + " | helps 0 0 = 0");
        e.is("two cornets, the breath of the first missing by 1", "pupil 6 | pupil 6 | 2* instrument 0 | lend 0 0 | lend 1 1"
            + " | helps 0 0 = NONE");
        e.is("the second helps, the first does not", "pupil 6 | pupil 7 | 2* instrument 0 | lend 0 0 | lend 1 1"
            + " | helps 0 0 = 1");
    }
}
