/** The edges of the promises 21 to 23, 25, 32 and 33: looks, counts, the share of the parts, the hash. */
final class EdgesOfLooks {
    private static final String TEN = "10* pupil 20 & instrument 0";
    private static final String ONE = "pupil 20 | instrument 0 | lend 0 0";

    private EdgesOfLooks() {
    }

    static void all(Edges e) {
        pupilOf(e);
        instrumentOf(e);
        loan(e);
        count(e);
        counts(e);
        played(e);
        digest(e);
        none(e);
    }

    private static void none(Edges e) {
        e.at(23, "`NONE = -1`: There is nothing to return.");
        e.due("NONE", BandCornets.NONE, -1);
    }

    private static void pupilOf(Edges e) {
        e.at(21, "Throws `IndexOutOfBoundsException` if there is no such pupil");
        e.is("nobody at all", "pupilOf 0 0 !Index");
        e.each("beside the only one", "pupil 20 | pupilOf ? 0 !Index", "-1 1 10 MIN MAX");
        e.is("the last of 10, and one behind", TEN + " | pupilOf 9 0 = 20 | pupilOf 10 0 !Index");
        e.at(21, "Throws `IllegalArgumentException` if what is not 0 to 6");
        e.each("is refused", "pupil 20 | pupilOf 0 ? !Argument", "-1 7 MIN MAX");
        e.at(21, "If several exceptions apply, the one that is named first in the throws clause is thrown.");
        e.each("no such pupil, wrong what", "pupil 20 | pupilOf 1 ? !Index | pupilOf -1 ? !Index", "-1 7 MIN MAX");
        e.is("nobody at all, wrong what", "pupilOf 0 7 !Index");
        e.at(21, "4: the instrument, NONE without one");
        e.is("never one", "pupil 20 | pupilOf 0 4 = NONE");
        e.is("the first", ONE + " | pupilOf 0 4 = 0");
        e.is("the last of 10", TEN + " | lend 9 0 | pupilOf 0 4 = 9");
        e.is("brought back", ONE + " | back 0 | pupilOf 0 4 = NONE");
        e.at(21, "5: 1 if the pupil had a lesson on this day, otherwise 0");
        e.is("before it", ONE + " | pupilOf 0 5 = 0");
        e.is("on this day", ONE + " | teach 0 0 | pupilOf 0 5 = 1");
        e.is("the next day", ONE + " | teach 0 0 | pass 1 | pupilOf 0 5 = 0");
        e.at(21, "6: marches in which the pupil played so far");
        e.is("none, one, two", ONE + " | pass 6 | pupilOf 0 6 = 0 | march 0 | pupilOf 0 6 = 1 | pass 7 | march 0"
            + " | pupilOf 0 6 = 2");
        e.is("not the instrument's", ONE + " | pupil 20 | pass 6 | march 0 | back 0 | lend 0 1 | pupilOf 0 6 = 1"
            + " | pupilOf 1 6 = 0");
        e.is("none without a part", ONE + " | pass 6 | march 1 = 4 | pupilOf 0 6 = 0");
        e.at(21, "lips, 0 to 20");
        e.is("the highest", ONE + " | 19* teach 0 2 & pass 1 | pupilOf 0 2 = 20 | teach 0 2 !State | pupilOf 0 2 = 20");
    }

    private static void instrumentOf(Edges e) {
        e.at(22, "Throws `IndexOutOfBoundsException` if there is no such instrument");
        e.is("nothing at all", "instrumentOf 0 0 !Index");
        e.each("beside the only one", "instrument 3 | instrumentOf ? 0 !Index", "-1 1 10 MIN MAX");
        e.is("the last of 10, and one behind", "9* instrument 0 | instrument 3 | instrumentOf 9 0 = 3 | instrumentOf 10 0 !Index");
        e.at(22, "Throws `IllegalArgumentException` if what is not 0 to 5");
        e.each("is refused", "instrument 0 | instrumentOf 0 ? !Argument", "-1 6 MIN MAX");
        e.at(22, "If several exceptions apply, the one that is named first in the throws clause is thrown.");
        e.each("no such instrument, wrong what", "instrument 0 | instrumentOf 1 ? !Index | instrumentOf -1 ? !Index",
            "-1 6 MIN MAX");
        e.is("nothing at all, wrong what", "instrumentOf 0 6 !Index");
        e.at(22, "1: its dents");
        e.is("none, and 9", "instrument 0 | instrumentOf 0 1 = 0 | dent 0 9 | instrumentOf 0 1 = 9");
        e.at(22, "2: the pupil who has it, NONE if nobody has");
        e.is("never lent", "instrument 0 | instrumentOf 0 2 = NONE");
        e.is("the first", ONE + " | instrumentOf 0 2 = 0");
        e.is("the last of 10", TEN + " | lend 0 9 | instrumentOf 0 2 = 9");
        e.is("brought back", ONE + " | back 0 | instrumentOf 0 2 = NONE");
        e.at(22, "3: marches in which it was played");
        e.is("none, one, and one without it", ONE + " | pass 6 | instrumentOf 0 3 = 0 | march 0 | instrumentOf 0 3 = 1 | pass 7"
            + " | march 1 = 4 | instrumentOf 0 3 = 1");
        e.is("brought back and mended", ONE + " | pass 6 | march 0 | back 0 | mend 0 | instrumentOf 0 3 = 1");
        e.at(22, "4: dents that came while it is lent, NONE if it is lent to nobody");
        e.is("never lent", "instrument 0 | dent 0 1 | instrumentOf 0 4 = NONE");
        e.is("none, with 4 from before", "pupil 20 | instrument 0 | dent 0 4 | lend 0 0 | instrumentOf 0 4 = 0");
        e.is("9 of 9", ONE + " | dent 0 9 | instrumentOf 0 4 = 9");
        e.is("5 of 9, with 4 from before", "pupil 20 | instrument 0 | dent 0 4 | lend 0 0 | dent 0 9 | instrumentOf 0 4 = 5");
        e.is("brought back", ONE + " | dent 0 9 | back 0 | instrumentOf 0 4 = NONE");
        e.is("of the second loan alone", ONE + " | dent 0 2 | back 0 | lend 0 0 | instrumentOf 0 4 = 0 | dent 0 1"
            + " | instrumentOf 0 4 = 1");
        e.at(22, "5: 1 if it can be played, otherwise 0");
        e.each("dents are not too many", "instrument 0 | dent 0 ? | instrumentOf 0 5 = 1", "1 4");
        e.each("dents are too many", "instrument 0 | dent 0 ? | instrumentOf 0 5 = 0", "5 9");
        e.is("without dents", "instrument 0 | instrumentOf 0 5 = 1");
    }

    private static void loan(Edges e) {
        e.at(23, "Throws `IllegalArgumentException` if place is below 0");
        e.each("is refused", ONE + " | loan ? !Argument", "-1 -2 MIN");
        e.is("below 0 without a loan", "loan -1 !Argument");
        e.at(23, "Returns 10 times the instrument and the pupil, together; NONE if there are not so many.");
        e.each("without a loan", "loan ? = NONE", "0 1 10 MAX");
        e.each("behind the only one", ONE + " | loan 0 = 0 | loan ? = NONE", "1 2 10 MAX");
        e.is("the instrument 9 and the pupil 0", TEN + " | lend 9 0 | loan 0 = 90");
        e.is("the instrument 0 and the pupil 9", TEN + " | lend 0 9 | loan 0 = 9");
        e.is("the instrument 9 and the pupil 9", TEN + " | lend 9 9 | loan 0 = 99");
        String all = TEN + " | lend 9 0 | lend 8 1 | lend 7 2 | lend 6 3 | lend 5 4 | lend 4 5 | lend 3 6 | lend 2 7 | lend 1 8"
            + " | lend 0 9";
        e.is("the last of 10, and one behind", all + " | loan 9 = 9 | loan 10 = NONE | loan MAX = NONE");
        e.at(23, "`place`: its place in this order, from 0");
        e.is("the place 0 is the first", TEN + " | lend 4 2 | lend 3 1 | loan 0 = 42 | loan 1 = 31 | loan 2 = NONE");
        e.at(23, "Loans have an order, in which they began.");
        e.is("10 of them", all + " | loan 0 = 90 | loan 1 = 81 | loan 2 = 72 | loan 3 = 63 | loan 4 = 54 | loan 5 = 45"
            + " | loan 6 = 36 | loan 7 = 27 | loan 8 = 18 | loan 9 = 9");
        e.is("the first brought back", all + " | back 9 | loan 0 = 81 | loan 8 = 9 | loan 9 = NONE");
        e.is("the last brought back", all + " | back 0 | loan 0 = 90 | loan 8 = 18 | loan 9 = NONE");
        e.is("one between brought back", all + " | back 5 | loan 3 = 63 | loan 4 = 45 | loan 8 = 9 | loan 9 = NONE");
        e.is("the first brought back and lent again is the last", all + " | back 9 | lend 9 0 = 10 | loan 0 = 81 | loan 8 = 9"
            + " | loan 9 = 90 | loan 10 = NONE");
        e.is("all brought back", ONE + " | back 0 | loan 0 = NONE | count 2 = 0 | lend 0 0 = 1 | loan 0 = 0");
    }

    private static void count(Edges e) {
        e.at(25, "Throws `IllegalArgumentException` if what is not 0 to 18");
        e.each("is refused", "count ? !Argument", "-1 19 -18 MIN MAX");
        e.each("is a number of a new band", "count ? = 0", "0 1 2 3 4 5 6 7 10 11 12 13 14 18");
        e.at(25, "0: pupils; 1: instruments; 2: loans; 3: the day");
        e.is("10 of each", "10* pupil 20 & instrument 0 | lend 0 0 | lend 1 1 | lend 2 2 | lend 3 3 | lend 4 4 | lend 5 5"
            + " | lend 6 6 | lend 7 7 | lend 8 8 | lend 9 9 | count 0 = 10 | count 1 = 10 | count 2 = 10");
        e.is("pupils and instruments are not mixed up", "2* pupil 20 | instrument 0 | count 0 = 2 | count 1 = 1 | count 2 = 0");
        e.at(25, "4: 1 if it is a Sunday, otherwise 0");
        e.each("no Sunday", "pass ? | count 4 = 0", "1 5 7 12 14");
        e.each("a Sunday", "pass ? | count 4 = 1", "6 13 20 27");
        e.is("the day 0", "count 4 = 0");
        e.at(25, "5: lessons so far; 6: marches played so far; 7: parts that were short so far");
        e.is("one lesson, one march", ONE + " | teach 0 0 | pass 6 | march 0 = 3 | count 5 = 1 | count 6 = 1 | count 7 = 3");
        e.is("two of them", ONE + " | 2* teach 0 0 & pass 6 | pass 1 | march 1 = 4 | pass 7 | march 0 = 3 | count 5 = 2"
            + " | count 6 = 2 | count 7 = 7");
        e.at(25, "15 to 17: the settings 0 to 2");
        e.is("each by itself", "set 0 1 | set 1 2 | set 2 3 | count 15 = 1 | count 16 = 2 | count 17 = 3");
        e.at(25, "18: saved states");
        e.is("from 0 to 6", "count 18 = 0 | pass 1 | count 18 = 1 | 4* pass 1 | count 18 = 5 | pass 1 | count 18 = 6 | pass 1"
            + " | count 18 = 6");
    }

    private static void counts(Edges e) {
        e.at(25, "8: the fund, and 1000000 more; 9: the same from the sums, and 1000000 more");
        e.is("below 0 by a fee", ONE + " | teach 0 2 | count 8 = 999940 | count 9 = 999940 | count 12 = 60");
        e.is("below 0 by a repair", "instrument 0 | dent 0 9 | mend 0 | count 8 = 999865 | count 9 = 999865 | count 13 = 135");
        e.is("above 0 by a march", ONE + " | pass 6 | march 0 | count 8 = 1000030 | count 9 = 1000030 | count 10 = 30");
        e.is("above 0 by a debt paid", ONE + " | dent 0 1 | back 0 | pay 0 20 | count 8 = 1000020 | count 9 = 1000020"
            + " | count 11 = 20");
        e.is("just 0 by a fee and a part", ONE + " | set 2 10 | pass 6 | march 0 | teach 0 0 | count 8 = 1000000"
            + " | count 9 = 1000000 | count 10 = 10 | count 12 = 10");
        e.is("all four together", ONE + " | pass 6 | march 0 | teach 0 1 | dent 0 2 | back 0 = 40 | pay 0 7 | mend 0 = 30"
            + " | count 8 = 999982 | count 9 = 999982 | count 10 = 30 | count 11 = 7 | count 12 = 25 | count 13 = 30"
            + " | count 14 = 33");
        e.at(25, "It is told as it stands, and a second time from the sums of all four; both agree.");
        e.is("at first, and behind each kind of payment", ONE + " | count 9 = 1000000 | pass 6 | march 0 | count 9 = 1000030"
            + " | teach 0 0 | count 9 = 1000020 | dent 0 1 | back 0 | pay 0 5 | count 9 = 1000025 | mend 0 | count 9 = 1000010"
            + " | count 8 = 1000010 | undo | count 8 = 1000025 | count 9 = 1000025");
        e.at(25, "10: earned by marches so far; 11: debts paid so far; 12: fees paid so far; 13: repairs paid so far");
        e.is("each twice", ONE + " | pass 6 | march 0 | teach 0 0 | pass 7 | march 0 | teach 0 1 | dent 0 2 | back 0 | pay 0 1"
            + " | pay 0 2 | mend 0 | dent 0 1 | mend 0 | count 10 = 60 | count 11 = 3 | count 12 = 35 | count 13 = 45");
        e.at(25, "14: debts now, together");
        e.is("none", "count 14 = 0 | pupil 20 | count 14 = 0");
        e.is("of two", "2* pupil 20 & instrument 0 | lend 0 0 | lend 1 1 | dent 0 1 | dent 1 3 | back 0 | count 14 = 20 | back 1"
            + " | count 14 = 80 | pay 1 999 | count 14 = 20 | pay 0 19 | count 14 = 1 | pay 0 1 | count 14 = 0");
        e.is("of the last of 10", TEN + " | lend 0 9 | dent 0 1 | back 0 | count 14 = 20");
        e.is("not those of a loan that goes on", ONE + " | dent 0 9 | count 14 = 0");
    }

    private static void played(Edges e) {
        String full = "4* pupil 30 | 2* instrument 0 | 2* instrument 1 | lend 0 0 | lend 1 1 | lend 2 2 | lend 3 3 | teach 0 0"
            + " | pass 6";
        e.at(32, "Returns the parts that were played so far, as a double, divided by all parts of all marches played so far; "
            + "1.0 without any.");
        e.is("without any", "played = 1.0");
        e.is("without any, on a Sunday", full + " | played = 1.0");
        e.is("none of 4", "pass 6 | march 0 = 4 | played = 0.0");
        e.is("none of 8", "pass 6 | march 0 | pass 7 | march 1 | played = 0.0");
        e.is("1 of 4", full + " | back 3 | back 2 | back 1 | march 0 = 3 | played = 0.25");
        e.is("2 of 4", full + " | back 3 | back 2 | march 0 = 2 | played = 0.5");
        e.is("3 of 4", full + " | back 3 | march 0 = 1 | played = 0.75");
        e.is("all of 4", full + " | march 0 = 0 | played = 1.0");
        e.is("4 of 8", full + " | march 3 = 4 | played = 0.0 | pass 7 | march 0 = 0 | played = 0.5");
        e.is("4 of 12", full + " | march 0 | 2* pass 7 & march 3 | played = " + 4.0 / 12 + " | count 7 = 8");
        e.is("1 of 12", full + " | back 1 | back 2 | back 3 | march 0 | 2* pass 7 & march 3 | played = " + 1.0 / 12);
        e.is("11 of 12", full + " | 2* march 0 & pass 7 | back 3 | march 0 = 1 | played = " + 11.0 / 12);
        e.is("without any again behind undo", "pass 6 | march 0 | undo | played = 1.0");
    }

    /** The values that the document lists, for a band whose values are all known. */
    private static void digest(Edges e) {
        e.at(33, "The hash starts at 3733. For each value v of the following list, in order, the hash becomes 31 * hash + v, in "
            + "long arithmetic with overflow.");
        long counts = hash(3733, 0, 0, 0, 0, 0, 0, 0, 0, 1000000, 1000000, 0, 0, 0, 0, 0, 20, 60, 30, 0);
        long end = hash(nobodysMarches(counts), 0, Double.doubleToLongBits(1.0), 0);
        e.is("a new band", "digest = " + end);
        e.is("a new band, twice", "digest = " + end + " | digest = " + end);
        long full = hash(nobodysMarches(counts), 0, Double.doubleToLongBits(1.0), 60);
        for (int k = 0; k < 30; k++) {
            full = hash(full, 33, 126);
        }
        e.is("a full buffer", "30* append 33 & append 126 | digest = " + full);
        long one = hash(nobodysMarches(counts), 0, Double.doubleToLongBits(1.0), 1, 'd');
        e.is("a buffer of one character", "append 100 | digest = " + one);
        long sunday = hash(3733, 0, 0, 0, 6, 1, 0, 1, 4, 1000000, 1000000, 0, 0, 0, 0, 0, 20, 60, 30, 2);
        e.is("none of 4 parts played", "pass 6 | march 0 | digest = "
            + hash(nobodysMarches(sunday), 0, Double.doubleToLongBits(0.0), 0));
        e.at(33, "The values are: count(0) to count(18)");
        e.is("the settings and the saved states too", "set 0 50 | set 1 200 | set 2 99 | digest = " + hash(nobodysMarches(
            hash(3733, 0, 0, 0, 0, 0, 0, 0, 0, 1000000, 1000000, 0, 0, 0, 0, 0, 50, 200, 99, 3)), 0,
            Double.doubleToLongBits(1.0), 0));
        e.at(33, "for each pupil the numbers 0 to 6, and noLesson with the teachers 0 to 2; for each instrument its numbers 0 to "
            + "5; each loan, in their order; for each march shortOf, most, helps with the teacher 2, and each character of its "
            + "line-up as a text; bestMarch; the bits of played (as Double.doubleToLongBits); the length of the buffer and "
            + "each of its character codes.");
        long pupil = hash(3733, 1, 0, 0, 0, 0, 0, 0, 0, 1000000, 1000000, 0, 0, 0, 0, 0, 20, 60, 30, 1);
        pupil = hash(pupil, 9, 9, 1, 0, -1, 0, 0, 1, 1, 1);
        e.is("one pupil", "pupil 9 | digest = " + hash(nobodysMarches(pupil), 0, Double.doubleToLongBits(1.0), 0));
        long thing = hash(3733, 0, 1, 0, 0, 0, 0, 0, 0, 1000000, 1000000, 0, 0, 0, 0, 0, 20, 60, 30, 2);
        thing = hash(thing, 3, 9, -1, 0, -1, 0);
        e.is("one instrument", "instrument 3 | dent 0 9 | digest = "
            + hash(nobodysMarches(thing), 0, Double.doubleToLongBits(1.0), 0));
        // Each digest is looked at beside the model's too.
        e.is("helps is that of the teacher 2", "pupil 30 | instrument 3 | lend 0 0 | 7* teach 0 0 & pass 2 | helps 3 0 = NONE"
            + " | helps 3 2 = 0 | digest");
        e.is("10 of each", TEN + " | digest | lend 0 9 | lend 9 0 | digest | teach 9 0 | digest | pass 6 | march 0 | digest");
        e.is("a loan and a march", "2* pupil 30 | 2* instrument 2 | lend 1 0 | lend 0 1 | teach 1 0 | pass 6 | march 1 = 2"
            + " | type day;d | digest = " + baritones());
    }

    /** Two baritones on the day 6, behind the march 1, with a text of 5 characters in the buffer. */
    private static long baritones() {
        long hash = hash(3733, 2, 2, 2, 6, 1, 1, 1, 2, 1000050, 1000050, 60, 0, 10, 0, 0, 20, 60, 30, 6);
        hash = hash(hash, 30, 20, 1, 0, 1, 0, 1, 0, 0, 0);
        hash = hash(hash, 30, 22, 2, 0, 0, 0, 1, 0, 0, 0);
        hash = hash(hash, 2, 0, 1, 1, 0, 1);
        hash = hash(hash, 2, 0, 0, 1, 0, 1);
        hash = hash(hash, 10, 1);
        hash = text(hash(hash, 4, 0, -1), "cornet:-,cornet:-,horn:-,horn:-");
        hash = text(hash(hash, 2, 2, -1), "horn:-,horn:-,baritone:1,baritone:0");
        hash = text(hash(hash, 4, 0, -1), "baritone:-,baritone:-,tuba:-,tuba:-");
        hash = text(hash(hash, 4, 0, -1), "tuba:-,tuba:-,cornet:-,cornet:-");
        return text(hash(hash, 1, Double.doubleToLongBits(0.5), 5), "day;d");
    }

    private static long nobodysMarches(long before) {
        String[] lines = {"cornet:-,cornet:-,horn:-,horn:-", "horn:-,horn:-,baritone:-,baritone:-",
            "baritone:-,baritone:-,tuba:-,tuba:-", "tuba:-,tuba:-,cornet:-,cornet:-"};
        long hash = before;
        for (String line : lines) {
            hash = text(hash(hash, 4, 0, -1), line);
        }
        return hash;
    }

    private static long text(long before, String text) {
        long hash = before;
        for (char sign : text.toCharArray()) {
            hash = hash(hash, sign);
        }
        return hash;
    }

    private static long hash(long before, long... values) {
        long hash = before;
        for (long v : values) {
            hash = 31 * hash + v;
        }
        return hash;
    }
}
