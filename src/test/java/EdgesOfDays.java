/** The edges of the promises 10, 11 and 27: days, breath that comes back, lessons. */
final class EdgesOfDays {
    private EdgesOfDays() {
    }

    static void all(Edges e) {
        pass(e);
        sundays(e);
        breath(e);
        newDay(e);
        teach(e);
        heights(e);
        noLesson(e);
        noLessonInTurn(e);
        breathOfLessons(e);
    }

    private static void pass(Edges e) {
        e.at(10, "`days`: 1 to 30");
        e.each("is taken", "pass ? = ? | count 3 = ?", "1 2 29 30");
        e.is("twice 30", "pass 30 = 30 | pass 30 = 60");
        e.at(10, "Throws `IllegalArgumentException` if days is out of range");
        e.each("is refused", "pupil 20 | pass 3 | pass ? !Argument | count 3 = 3", "0 31 -1 -30 MIN MAX");
        e.at(10, "Lets days pass. Undoable, as one call.");
        e.each("is undone at once", "pass 2 | pass ? | count 18 = 2 | undo = 1 | count 3 = 2 | undo = 0 | count 3 = 0", "1 30");
        e.is("with all that the days did", "pupil 30 | instrument 3 | lend 0 0 | teach 0 2 | digest = @a | pass 30"
            + " | undo = 4 | digest = @a | teach 0 2 !State");
    }

    private static void sundays(Edges e) {
        e.at(10, "Days are counted from 0; a day is a Sunday, if its remainder by 7 is 6.");
        StringBuilder script = new StringBuilder("count 3 = 0 | count 4 = 0");
        for (int day = 1; day <= 21; day++) {
            script.append(" | pass 1 = ").append(day).append(" | count 4 = ").append(day % 7 == 6 ? 1 : 0);
        }
        e.is("the days 0 to 21", script.toString());
        for (int day : new int[] {5, 6, 7, 12, 13, 14, 20, 27}) {
            boolean isSunday = day == 6 || day == 13 || day == 20 || day == 27;
            e.is("the day " + day, "pass " + day + " | count 4 = " + (isSunday ? "1 | march 0 = 4" : "0 | march 0 !State"));
        }
    }

    private static void breath(Edges e) {
        e.at(10, "When a day passes, the day becomes 1 more");
        e.is("from the day 0 to 2", "pass 1 = 1 | pass 1 = 2 | count 3 = 2");
        e.is("by a text", "type day;day | work = 2 | count 3 = 2");
        e.at(10, "and the breath of each pupil 4 more, but at most its lungs");
        e.is("3 below its lungs", "pupil 30 | instrument 0 | lend 0 0 | teach 0 0 | pupilOf 0 1 = 27 | pass 1"
            + " | pupilOf 0 1 = 30");
        e.is("4 below its lungs", "pupil 30 | instrument 1 | lend 0 0 | teach 0 0 | pupilOf 0 1 = 26 | pass 1"
            + " | pupilOf 0 1 = 30");
        e.is("5 below its lungs", "pupil 30 | instrument 2 | lend 0 0 | teach 0 0 | pupilOf 0 1 = 25 | pass 1"
            + " | pupilOf 0 1 = 29 | pass 1 | pupilOf 0 1 = 30");
        e.is("8 below its lungs, 2 days", "pupil 30 | instrument 1 | lend 0 0 | pass 6 | march 0 | pupilOf 0 1 = 22 | pass 2"
            + " | pupilOf 0 1 = 30");
        e.is("9 below its lungs, 2 days", "pupil 30 | instrument 0 | lend 0 0 | pass 6 | march 0 | teach 0 0"
            + " | pupilOf 0 1 = 21 | pass 2 | pupilOf 0 1 = 29");
        e.each("days, and it is full", "pupil 5 | pass ? | pupilOf 0 1 = 5", "1 30");
        e.is("from 0", "pupil 6 | instrument 0 | lend 0 0 | pass 6 | march 0 | pupilOf 0 1 = 0 | pass 1 | pupilOf 0 1 = 4"
            + " | pass 1 | pupilOf 0 1 = 6");
        e.is("of each pupil", "pupil 10 | pupil 30 | 2* instrument 0 | lend 0 0 | lend 1 1 | teach 0 0 | teach 1 0 | pass 1"
            + " | pupilOf 0 1 = 10 | pupilOf 1 1 = 30");
        e.is("of the last of 10", "9* pupil 5 | pupil 30 | instrument 2 | lend 0 9 | teach 9 0 | pass 1 | pupilOf 9 1 = 29");
    }

    private static void newDay(Edges e) {
        e.at(10, "no pupil has had a lesson on the new day, and no march was played.");
        e.is("a lesson on each of two days", "pupil 20 | instrument 0 | lend 0 0 | teach 0 0 | pupilOf 0 5 = 1 | pass 1"
            + " | pupilOf 0 5 = 0 | noLesson 0 0 = 0 | teach 0 0 = 3");
        e.is("lessons of all 10", "10* pupil 20 & instrument 0 | lend 0 0 | lend 9 9 | teach 0 0 | teach 9 0 | pass 1"
            + " | pupilOf 0 5 = 0 | pupilOf 9 5 = 0");
        e.is("a march on each of two Sundays", "pass 6 | march 0 = 4 | pass 7 | march 0 = 4");
        e.is("no Sunday, no march", "pass 6 | march 0 | pass 1 | march 0 !State");
        e.is("no pupil at all", "pass 1 = 1 | count 0 = 0");
    }

    private static void teach(Edges e) {
        String one = "pupil 20 | instrument 0 | lend 0 0";
        e.at(11, "Throws `IndexOutOfBoundsException` if there is no such pupil or teacher");
        e.is("nobody at all", "teach 0 0 !Index");
        e.each("no such pupil", one + " | teach ? 0 !Index", "-1 1 10 MIN MAX");
        e.each("no such teacher", one + " | teach 0 ? !Index", "-1 3 MIN MAX");
        e.each("is a teacher", one + " | teach 0 ? = 2", "0 1 2");
        e.is("the last of 10, and one behind", "10* pupil 20 | instrument 0 | lend 0 9 | teach 10 0 !Index | teach 9 0 = 2");
        e.at(11, "Throws `IllegalStateException` if it is not possible");
        e.is("without an instrument", "pupil 20 | instrument 0 | teach 0 0 !State");
        e.is("with one that was brought back", one + " | back 0 | teach 0 0 !State");
        e.is("with 5 dents", one + " | dent 0 5 | teach 0 0 !State");
        e.is("with 4 dents", one + " | dent 0 4 | teach 0 0 = 2");
        e.is("twice on a day", one + " | teach 0 0 = 2 | teach 0 1 !State | teach 0 0 !State");
        e.at(11, "If several exceptions apply, the one that is named first in the throws clause is thrown.");
        e.is("no such teacher, and no instrument", "pupil 20 | teach 0 3 !Index | teach 0 -1 !Index");
        e.is("no such teacher, and a lesson on this day", one + " | teach 0 0 | teach 0 3 !Index");
        e.is("no such pupil and no such teacher", one + " | teach 1 3 !Index");
        e.at(11, "By a lesson the lips become 1 more, the breath becomes less by 3 and the kind, and the band pays the fee.");
        for (int kind = 0; kind < 4; kind++) {
            e.is("the kind " + kind, "pupil 30 | instrument " + kind + " | lend 0 0 | teach 0 0 = 2 | pupilOf 0 2 = 2"
                + " | pupilOf 0 1 = " + (27 - kind) + " | pupilOf 0 5 = 1 | count 5 = 1");
        }
        e.is("the other pupil learns nothing", "2* pupil 20 & instrument 0 | lend 0 0 | lend 1 1 | teach 1 0 | pupilOf 0 2 = 1"
            + " | pupilOf 0 1 = 20 | pupilOf 0 5 = 0 | teach 0 0 = 2");
        e.at(11, "for a fee of 10, 25 and 60.");
        e.is("teacher 0", one + " | teach 0 0 | count 12 = 10 | count 8 = 999990 | count 9 = 999990");
        e.is("teacher 1", one + " | teach 0 1 | count 12 = 25 | count 8 = 999975 | count 9 = 999975");
        e.is("teacher 2", one + " | teach 0 2 | count 12 = 60 | count 8 = 999940 | count 9 = 999940");
        e.at(11, "Gives a pupil a lesson. Undoable.");
        e.is("a first lesson", one + " | digest = @a | teach 0 0 | count 18 = 4 | undo = 3 | digest = @a | pupilOf 0 5 = 0"
            + " | teach 0 0 = 2");
    }

    private static void heights(Edges e) {
        String one = "pupil 30 | instrument 0 | lend 0 0";
        String seven = one + " | 6* teach 0 0 & pass 1 | pupilOf 0 2 = 7";
        String thirteen = one + " | 12* teach 0 1 & pass 1 | pupilOf 0 2 = 13";
        String nineteen = one + " | 18* teach 0 2 & pass 1 | pupilOf 0 2 = 19";
        e.at(11, "There are 3 teachers, 0 to 2, who teach lips up to 8, 14 and 20");
        e.is("teacher 0 up to 8", seven + " | teach 0 0 = 8");
        e.is("teacher 0 no higher", seven + " | teach 0 0 | pass 1 | teach 0 0 !State | pupilOf 0 2 = 8");
        e.is("teacher 1 up to 14", thirteen + " | teach 0 1 = 14");
        e.is("teacher 1 no higher", thirteen + " | teach 0 1 | pass 1 | teach 0 1 !State | teach 0 0 !State");
        e.is("teacher 2 up to 20", nineteen + " | teach 0 2 = 20");
        e.is("teacher 2 no higher", nineteen + " | teach 0 2 | pass 1 | teach 0 2 !State | teach 0 1 !State"
            + " | teach 0 0 !State | pupilOf 0 2 = 20");
        e.at(27, "3: the lips are as high as the teacher teaches, or higher");
        e.is("lips 7", seven + " | noLesson 0 0 = 0 | noLesson 0 1 = 0 | noLesson 0 2 = 0");
        e.is("lips 8", seven + " | teach 0 0 | pass 1 | noLesson 0 0 = 3 | noLesson 0 1 = 0 | noLesson 0 2 = 0");
        e.is("lips 9", seven + " | teach 0 0 | pass 1 | teach 0 1 = 9 | pass 1 | noLesson 0 0 = 3 | noLesson 0 1 = 0");
        e.is("lips 13", thirteen + " | noLesson 0 0 = 3 | noLesson 0 1 = 0 | noLesson 0 2 = 0");
        e.is("lips 14", thirteen + " | teach 0 1 | pass 1 | noLesson 0 0 = 3 | noLesson 0 1 = 3 | noLesson 0 2 = 0");
        e.is("lips 15", thirteen + " | teach 0 1 | pass 1 | teach 0 2 = 15 | pass 1 | noLesson 0 1 = 3 | noLesson 0 2 = 0");
        e.is("lips 19", nineteen + " | noLesson 0 1 = 3 | noLesson 0 2 = 0");
        e.is("lips 20", nineteen + " | teach 0 2 | pass 1 | noLesson 0 0 = 3 | noLesson 0 1 = 3 | noLesson 0 2 = 3");
    }

    private static void noLesson(Edges e) {
        String one = "pupil 20 | instrument 0 | lend 0 0";
        e.at(27, "Throws `IndexOutOfBoundsException` if there is no such pupil or teacher");
        e.is("nobody at all", "noLesson 0 0 !Index");
        e.each("no such pupil", one + " | noLesson ? 0 !Index", "-1 1 10 MIN MAX");
        e.each("no such teacher", one + " | noLesson 0 ? !Index", "-1 3 MIN MAX");
        e.is("the last of 10, and one behind", "10* pupil 20 | instrument 0 | lend 0 9 | noLesson 10 0 !Index"
            + " | noLesson 9 2 = 0");
        e.at(27, "Returns the reason, 1 to 4; 0 if it is possible.");
        e.each("is a teacher", one + " | noLesson 0 ? = 0 | teach 0 ? = 2", "0 1 2");
        e.at(27, "1: the pupil has no instrument that can be played");
        e.is("none", "pupil 20 | instrument 0 | noLesson 0 0 = 1");
        e.is("brought back", one + " | back 0 | noLesson 0 0 = 1");
        e.each("dents are not too many", one + " | dent 0 ? | noLesson 0 0 = 0", "1 4");
        e.each("dents are too many", one + " | dent 0 ? | noLesson 0 0 = 1", "5 9");
        e.is("another one's instrument", "2* pupil 20 & instrument 0 | lend 0 1 | noLesson 0 0 = 1 | noLesson 1 0 = 0");
        e.at(27, "2: the pupil had a lesson on this day");
        e.is("on this day", one + " | teach 0 0 | noLesson 0 0 = 2 | noLesson 0 1 = 2 | noLesson 0 2 = 2");
        e.is("on the day before", one + " | teach 0 0 | pass 1 | noLesson 0 0 = 0");
        e.is("also with another instrument", one + " | instrument 1 | teach 0 0 | back 0 | lend 1 0 | noLesson 0 0 = 2");
    }

    private static void noLessonInTurn(Edges e) {
        e.at(27, "A lesson is not possible for the first of these reasons that applies");
        // On the day 6 the lips become 8 and the breath 2; so the reasons 2, 3 (for the teacher 0) and 4 apply.
        String all = "pupil 5 | instrument 0 | lend 0 0 | 6* teach 0 0 & pass 1 | teach 0 0 = 8 | pupilOf 0 1 = 2";
        e.is("1 before 2, 3, 4", all + " | dent 0 5 | noLesson 0 0 = 1");
        e.is("1 before 2, 3, 4, without an instrument", all + " | back 0 | noLesson 0 0 = 1");
        e.is("2 before 3, 4", all + " | noLesson 0 0 = 2");
        e.is("2 before 4", all + " | noLesson 0 1 = 2");
        String played = all + " | pass 7 | march 0 = 3 | pupilOf 0 1 = 1";
        e.is("3 before 4", played + " | noLesson 0 0 = 3 | teach 0 0 !State");
        e.is("4 at last", played + " | noLesson 0 1 = 4 | teach 0 1 !State");
        e.is("1 before 3, 4", played + " | dent 0 5 | noLesson 0 0 = 1");
        e.is("1 before 4", played + " | dent 0 5 | noLesson 0 1 = 1");
    }

    /** Each band marches once, so that the breath is just what a lesson needs, or less by 1. */
    private static void breathOfLessons(Edges e) {
        e.at(27, "4: the breath is less than 3 and the kind of the instrument, together.");
        breathOfLesson(e, 0, "pass 6 | march 0", 9, 6);
        breathOfLesson(e, 1, "pass 6 | march 0", 12, 8);
        breathOfLesson(e, 2, "pass 6 | march 1", 13, 8);
        breathOfLesson(e, 3, "teach 0 2 | pass 6 | march 2", 16, 10);
    }

    private static void breathOfLesson(Edges e, int kind, String march, int lungs, int breathOfMarch) {
        int left = lungs - breathOfMarch;
        String rest = " | instrument " + kind + " | lend 0 0 | " + march + " = 3 | pupilOf 0 1 = ";
        e.is("as much as the kind " + kind + " needs", "pupil " + lungs + rest + left
            + " | noLesson 0 2 = 0 | teach 0 2 | pupilOf 0 1 = 0 | noLesson 0 2 = 2");
        e.is("less by 1 than the kind " + kind + " needs", "pupil " + (lungs - 1) + rest + (left - 1)
            + " | noLesson 0 2 = 4 | teach 0 2 !State");
    }
}
