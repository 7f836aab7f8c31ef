/** Each refused call and each look on a band that has all: neither changes anything. */
final class EdgesOfRefusals {
    /**
     * 10 pupils and 10 instruments, 4 loans, 6 saved states, a snapshot, a march and two lessons on the day 6, a text that
     * goes on. The pupil 1 has a horn with 5 dents, the pupil 3 a debt of 80, the pupil 9 small lungs.
     */
    private static final String BAND = "8* pupil 20 & instrument 1 | pupil 20 | instrument 0 | pupil 5 | instrument 3 | dent 9 4"
        + " | lend 0 0 | lend 1 1 | lend 8 8 | lend 3 3 | dent 3 4 | back 3 = 80 | lend 4 4 | dent 2 5 | keep | pass 6"
        + " | teach 8 0 | teach 1 2 | march 0 = 1 | dent 0 1 | dent 1 5 | type day;d";
    private static final String CHANGES_NOTHING = "A call that throws an exception changes nothing.";

    private EdgesOfRefusals() {
    }

    static void all(Edges e) {
        refused(e, 2, "pupil 20 !State", "pupil 4 !Argument", "pupil 31 !Argument");
        refused(e, 3, "instrument 0 !State", "instrument -1 !Argument", "instrument 4 !Argument");
        refused(e, 4, "lend 0 5 !State", "lend 5 0 !State", "lend 2 5 !State", "lend 3 3 !State", "lend 9 9 !State",
            "lend 10 5 !Index", "lend -1 5 !Index", "lend 5 10 !Index", "lend 5 -1 !Index");
        refused(e, 5, "back 5 !State", "back 10 !Index", "back -1 !Index");
        refused(e, 6, "dent 10 1 !Index", "dent -1 1 !Index", "dent 0 0 !Argument", "dent 0 10 !Argument");
        refused(e, 7, "mend 0 !State", "mend 10 !Index", "mend -1 !Index");
        refused(e, 8, "pay 10 1 !Index", "pay -1 1 !Index", "pay 3 0 !Argument", "pay 3 1000 !Argument");
        refused(e, 9, "set 3 0 !Index", "set -1 0 !Index", "set 0 51 !Argument", "set 1 201 !Argument", "set 2 100 !Argument",
            "set 0 -1 !Argument", "set 1 -1 !Argument", "set 2 -1 !Argument");
        refused(e, 10, "pass 0 !Argument", "pass 31 !Argument");
        refused(e, 11, "teach 10 0 !Index", "teach -1 0 !Index", "teach 0 3 !Index", "teach 0 -1 !Index", "teach 5 0 !State",
            "teach 1 0 !State", "teach 8 2 !State");
        refused(e, 12, "march 4 !Index", "march -1 !Index", "march 0 !State", "march 3 !State", "pass 1 & march 0 !State");
        refused(e, 13, "append 32 !Argument", "append 127 !Argument", "55* append 59 | append 97 !State",
            "55* append 59 | append 32 !Argument");
        refused(e, 16, "work !Argument", "clearBuffer & work !Argument", "append 120 & work !Argument");
        refused(e, 17, "told 4 0 !Index", "told -1 0 !Index", "told 0 -1 !Argument");
        refused(e, 18, "6* undo | undo !State");
        e.at(20, CHANGES_NOTHING);
        e.is("restore", BAND.replace(" | keep", "") + " | restore !State");
        refused(e, 21, "pupilOf 10 0 !Index", "pupilOf -1 0 !Index", "pupilOf 0 -1 !Argument", "pupilOf 0 7 !Argument");
        refused(e, 22, "instrumentOf 10 0 !Index", "instrumentOf -1 0 !Index", "instrumentOf 0 -1 !Argument",
            "instrumentOf 0 6 !Argument");
        refused(e, 23, "loan -1 !Argument");
        refused(e, 24, "part 4 0 0 !Index", "part -1 0 0 !Index", "part 0 4 0 !Index", "part 0 -1 0 !Index",
            "part 0 0 4 !Argument", "part 0 0 -1 !Argument");
        refused(e, 25, "count -1 !Argument", "count 19 !Argument");
        refused(e, 26, "noLoan 10 0 !Index", "noLoan -1 0 !Index", "noLoan 0 10 !Index", "noLoan 0 -1 !Index");
        refused(e, 27, "noLesson 10 0 !Index", "noLesson -1 0 !Index", "noLesson 0 3 !Index", "noLesson 0 -1 !Index");
        refused(e, 28, "shortOf 4 !Index", "shortOf -1 !Index");
        refused(e, 29, "most 4 !Index", "most -1 !Index");
        refused(e, 31, "helps 4 0 !Index", "helps -1 0 !Index", "helps 0 3 !Index", "helps 0 -1 !Index");
        looks(e);
    }

    private static void refused(Edges e, int promise, String... calls) {
        e.at(promise, CHANGES_NOTHING);
        for (String call : calls) {
            e.is(call, BAND + " | " + call);
        }
    }

    /** The runner looks at the whole state before and behind each look. */
    private static void looks(Edges e) {
        look(e, 15, "Finds the first syntax error of the buffer.", "firstError = 5");
        look(e, 17, "Returns a character of the line-up of a march, as it would be now, told as a text",
            "line 0 = cornet:8,cornet:-,horn:0,horn:4");
        String looks = "---- looks; nothing is changed.";
        for (int what = 0; what < 7; what++) {
            look(e, 21, looks, "pupilOf 0 " + what);
        }
        for (int what = 0; what < 6; what++) {
            look(e, 22, looks, "instrumentOf 0 " + what);
        }
        look(e, 23, looks, "loan 0 = 0 & loan 3 = 44 & loan 4 = NONE");
        for (int what = 0; what < 4; what++) {
            look(e, 24, looks, "part 0 0 " + what + " & part 3 3 " + what);
        }
        for (int what = 0; what < 19; what++) {
            look(e, 25, looks, "count " + what);
        }
        String wouldBe = "---- what would be; nothing is changed.";
        look(e, 26, wouldBe, "noLoan 0 5 = 1 & noLoan 5 0 = 2 & noLoan 2 5 = 3 & noLoan 3 3 = 4 & noLoan 9 9 = 5 & noLoan 5 5 = 0");
        look(e, 27, wouldBe, "noLesson 5 0 = 1 & noLesson 8 0 = 2 & noLesson 4 0 = 0 & pass 1 & noLesson 8 0 = 0");
        look(e, 28, wouldBe, "shortOf 0 = 1 & shortOf 1 = 4 & shortOf 2 = 4 & shortOf 3 = 4");
        look(e, 29, wouldBe, "most 0 = 3 & most 1 = 0 & most 2 = 0 & most 3 = 0");
        look(e, 30, wouldBe, "bestMarch = 0");
        look(e, 31, wouldBe, "helps 0 2 = NONE & helps 1 2 = NONE & pass 1 & helps 1 2 = NONE & back 4 & lend 9 4 & helps 2 2 = 4");
        look(e, 32, wouldBe, "played = 0.75");
        look(e, 33, wouldBe, "digest = @a & digest = @a");
    }

    private static void look(Edges e, int promise, String sentence, String calls) {
        e.at(promise, sentence);
        e.is(calls, BAND + " | " + calls);
    }
}
