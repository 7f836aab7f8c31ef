/** The edges of the promises 18 to 20: saved states and the snapshot. */
final class EdgesOfUndo {
    private EdgesOfUndo() {
    }

    static void all(Edges e) {
        undo(e);
        eachMethod(e);
        allOfTheState(e);
        keep(e);
        restore(e);
        restoreAll(e);
    }

    private static void undo(Edges e) {
        e.at(18, "Throws `IllegalStateException` if there is none");
        e.is("none yet", "undo !State");
        e.is("none any more", "pass 1 | undo = 0 | undo !State | count 3 = 0");
        e.is("none for what is not undoable", "append 100 | clearBuffer | keep | undo !State");
        e.is("none for what was refused", "pupil 4 !Argument | pass 0 !Argument | march 0 !State | restore !State | undo !State");
        e.at(18, "At most 6 states are saved; the oldest one is dropped first.");
        e.is("5", "5* pass 1 | count 18 = 5 | 5* undo | count 3 = 0 | undo !State");
        e.is("6", "6* pass 1 | count 18 = 6 | undo = 5 | undo = 4 | undo = 3 | undo = 2 | undo = 1 | undo = 0 | count 3 = 0"
            + " | undo !State");
        e.is("7", "7* pass 1 | count 18 = 6 | undo = 5 | 5* undo | count 3 = 1 | undo !State");
        e.is("12", "12* pass 1 | count 18 = 6 | 6* undo | count 3 = 6 | undo !State");
        e.is("13", "13* pass 1 | count 18 = 6 | 6* undo | count 3 = 7 | undo !State");
        e.is("each day of the last 6 of 20", "20* pass 1 | undo & count 3 = 19 | undo & count 3 = 18 | undo & count 3 = 17"
            + " | undo & count 3 = 16 | undo & count 3 = 15 | undo & count 3 = 14 | undo !State");
        e.at(18, "Returns how many saved states are left.");
        e.is("none of one", "pass 1 | undo = 0");
        e.is("one of two", "2* pass 1 | undo = 1 | undo = 0");
        e.is("5 of the most", "30* pass 1 | undo = 5 | undo = 4");
        e.at(18, "Restores the latest saved state, and drops it.");
        e.is("the only one", "pass 3 | undo = 0 | count 3 = 0 | count 18 = 0");
        e.is("the latest of two", "pass 3 | pass 4 | undo = 1 | count 3 = 3 | undo = 0 | count 3 = 0");
        e.is("one that is saved behind an undo", "pass 3 | pass 4 | undo | pass 5 = 8 | undo = 1 | count 3 = 3 | undo = 0"
            + " | count 3 = 0 | undo !State");
        e.is("6 again behind 2 undos of 8", "8* pass 1 | 2* undo | 2* pass 10 | count 18 = 6 | undo & count 3 = 16"
            + " | undo & count 3 = 6 | undo & count 3 = 5 | undo & count 3 = 4 | undo & count 3 = 3 | undo & count 3 = 2"
            + " | undo !State");
        e.is("undo is not undone", "pass 1 | pass 2 | undo = 1 | undo = 0 | undo !State | count 3 = 0");
    }

    /** Each undoable method with few saved states, and as the one that drops the oldest of 6. */
    private static void eachMethod(Edges e) {
        e.at(18, "Each method that is marked \"undoable\" and does not throw an exception saves the state from before it (also "
            + "if it changes nothing)");
        String[] calls = {"pupil 5", "instrument 0", "lend 1 1", "back 0", "dent 0 9", "mend 1", "pay 2 999", "set 1 200",
            "pass 30", "teach 0 2", "march 0", "work", "restore"};
        // Six calls more and six undos leave the band as it is, without a saved state.
        String band = "3* pupil 20 | 3* instrument 0 | lend 0 0 | dent 1 1 | lend 2 2 | dent 2 1 | back 2 | pass 6 | keep"
            + " | pass 7 | type day;day | 6* set 0 20 | 6* undo";
        for (String call : calls) {
            String again = call.equals("work") ? " | type day;day" : "";
            e.is(call + ", with none saved", band + " | digest = @a | " + call + " | count 18 = 1 | undo = 0" + again
                + " | digest = @a | undo !State");
            e.is(call + ", with 5 saved", band + " | 5* set 0 7 | " + call + " | count 18 = 6 | undo = 5 | 5* undo"
                + " | count 15 = 20 | undo !State");
            e.is(call + ", with 6 saved", band + " | set 0 1 | set 0 2 | set 0 3 | set 0 4 | set 0 5 | set 0 6 | " + call
                + " | count 18 = 6 | undo = 5 | count 15 = 6 | 4* undo | count 15 = 2 | undo = 0 | count 15 = 1 | undo !State");
        }
        String[] without = {"append 100", "clearBuffer", "firstError", "told 0 0", "keep", "pupilOf 0 0", "instrumentOf 0 0",
            "loan 0", "part 0 0 0", "count 0", "noLoan 0 0", "noLesson 0 0", "shortOf 0", "most 0", "bestMarch", "helps 0 0",
            "played", "digest"};
        for (String call : without) {
            e.is(call + " saves nothing", "pupil 20 | instrument 0 | " + call + " | count 18 = 2 | undo = 1 | undo = 0"
                + " | undo !State");
        }
        e.at(18, "saves the state from before it (also if it changes nothing)");
        String idle = "pupil 20 | 2* instrument 0 | dent 0 9 | keep | digest = @a | ";
        for (String call : new String[] {"dent 0 9", "mend 1", "pay 0 999", "set 2 30", "restore"}) {
            e.is(call + ", which changes nothing", idle + call + " | count 18 = 5 | undo = 4 | digest = @a");
        }
    }

    private static void allOfTheState(Edges e) {
        e.at(18, "all, also what is counted so far, but the buffer, the saved states and the snapshot.");
        String band = "pupil 30 | instrument 0 | lend 0 0 | pass 6";
        e.is("lessons and fees", band + " | teach 0 2 | count 5 = 1 | count 12 = 60 | undo | count 5 = 0 | count 12 = 0"
            + " | count 8 = 1000000 | pupilOf 0 5 = 0 | pupilOf 0 1 = 30 | pupilOf 0 2 = 1");
        e.is("marches and what they earned", band + " | march 0 = 3 | undo | count 6 = 0 | count 7 = 0 | count 10 = 0"
            + " | count 8 = 1000000 | count 9 = 1000000 | played = 1.0 | pupilOf 0 6 = 0 | instrumentOf 0 3 = 0 | march 0 = 3");
        e.is("the third march", band + " | 2* march 0 & pass 7 | march 0 | instrumentOf 0 1 = 1 | undo | instrumentOf 0 1 = 0"
            + " | instrumentOf 0 3 = 2 | march 0 | instrumentOf 0 1 = 1");
        e.is("repairs", "instrument 0 | dent 0 3 | mend 0 | count 13 = 45 | undo | count 13 = 0 | count 8 = 1000000"
            + " | instrumentOf 0 1 = 3 | mend 0 = 45");
        e.is("debts paid", "pupil 20 | instrument 0 | lend 0 0 | dent 0 1 | back 0 | pay 0 15 | count 11 = 15 | undo"
            + " | count 11 = 0 | count 14 = 20 | count 8 = 1000000 | pupilOf 0 3 = 20");
        e.is("a loan with the dents that it began with", "pupil 20 | instrument 0 | dent 0 2 | lend 0 0 | dent 0 1 | back 0 = 20"
            + " | undo | instrumentOf 0 4 = 1 | back 0 = 20");
        e.is("a loan of dents, behind a loan without", "pupil 20 | instrument 0 | dent 0 2 | lend 0 0 | back 0 | mend 0"
            + " | lend 0 0 | 3* undo | instrumentOf 0 4 = 0 | dent 0 1 | back 0 = 20");
        e.is("a pupil, behind another with the same number", "pupil 20 | undo | pupil 7 = 0 | pupilOf 0 0 = 7 | undo | undo !State"
            + " | pupil 9 = 0 | pupilOf 0 0 = 9 | pupilOf 0 1 = 9");
        e.is("the buffer stays", "type day | pass 1 | type ;d | undo = 0 | firstError = 5 | clearBuffer = 5");
        e.is("the snapshot stays", "pass 2 | keep = 2 | pass 3 | undo | undo | restore = 2");
        e.is("a snapshot behind the saved state stays", "pass 2 | keep = 2 | undo = 0 | restore = 2 | undo = 0 | count 3 = 0");
        e.is("10 of each", "10* pupil 20 & instrument 0 | digest = @a | lend 9 9 | undo = 5 | count 0 = 10 | count 1 = 10"
            + " | loan 0 = NONE");
    }

    private static void keep(Edges e) {
        e.at(19, "Takes a snapshot, in place of the one before.");
        e.is("the first, of a new band", "keep = 0 | pupil 20 | restore = 0 | count 0 = 0");
        e.is("a second one", "keep = 0 | pass 3 | keep = 3 | pass 4 | restore = 3 | restore = 3");
        e.is("a second one of an earlier day", "pass 3 | keep = 3 | undo | keep = 0 | pass 9 | restore = 0");
        e.is("twice the same", "pass 1 | keep = 1 | keep = 1 | pass 1 | restore = 1");
        e.at(19, "Returns the day.");
        e.each("is the day", "pass ? | keep = ?", "1 6 30");
        e.is("the day 0", "keep = 0");
        e.at(19, "`int keep()`");
        e.is("it is not undoable", "pass 1 | keep | count 18 = 1 | undo = 0 | undo !State");
        e.is("of a full band", "10* pupil 20 & instrument 0 | lend 0 9 | lend 9 0 | digest = @a | keep | digest = @a | back 0"
            + " | back 9 | restore | loan 0 = 9 | loan 1 = 90 | loan 2 = NONE");
    }

    private static void restore(Edges e) {
        e.at(20, "Throws `IllegalStateException` if there is no snapshot");
        e.is("of a new band", "restore !State | count 18 = 0");
        e.is("of a band that has saved states", "3* pass 1 | restore !State | count 18 = 3 | count 3 = 3");
        e.is("a first snapshot is enough", "restore !State | keep | restore = 0");
        e.at(20, "Restores the state of the snapshot, which stays.");
        e.is("twice", "pass 2 | keep | pass 1 | restore = 2 | pass 5 | restore = 2 | count 3 = 2");
        e.is("also behind changes of what was restored", "pupil 20 | instrument 0 | lend 0 0 | keep | dent 0 9 | restore"
            + " | dent 0 3 | teach 0 0 | back 0 | set 0 1 | restore | instrumentOf 0 1 = 0 | pupilOf 0 4 = 0"
            + " | pupilOf 0 2 = 1 | count 15 = 20 | count 2 = 1");
        e.is("also behind undo of all", "pass 2 | keep | restore | undo = 1 | undo = 0 | undo !State | restore = 2");
        e.is("the snapshot is no saved state", "6* pass 1 | keep = 6 | 6* undo | undo !State | restore = 6 | count 18 = 1");
        e.at(20, "Restores the state of the snapshot, which stays. Undoable.");
        e.is("undone", "pass 2 | keep | pass 3 | digest = @a | restore = 2 | count 18 = 3 | undo = 2 | digest = @a");
        e.is("with 6 saved states", "pass 1 | keep | 7* pass 1 | restore = 1 | count 18 = 6 | undo = 5 | count 3 = 8 | 5* undo"
            + " | count 3 = 3 | undo !State");
        e.is("with none", "keep | restore = 0 | count 18 = 1 | undo = 0 | undo !State");
        e.at(20, "Returns the day then.");
        e.is("an earlier one", "pass 5 | keep | pass 30 | restore = 5 | count 3 = 5 | pass 1 = 6 | count 4 = 1");
        e.is("a later one", "pass 5 | keep | undo | restore = 5");
    }

    private static void restoreAll(Edges e) {
        e.at(20, "all, also what is counted so far, but the buffer, the saved states and the snapshot.");
        String band = "pupil 30 | instrument 0 | lend 0 0 | pass 6";
        e.is("that a march was played", band + " | march 0 | keep | pass 1 | restore | march 0 !State | pass 7 | march 0 = 3");
        e.is("that none was played", band + " | keep | march 0 | restore | march 0 = 3 | count 6 = 1 | count 10 = 30");
        e.is("that a lesson was had", band + " | teach 0 0 | keep | pass 1 | restore | teach 0 0 !State | count 5 = 1");
        e.is("that none was had", band + " | keep | teach 0 0 | restore | teach 0 0 = 2 | count 5 = 1 | count 12 = 10");
        e.is("fewer pupils and instruments", "keep | 10* pupil 20 & instrument 0 | restore | count 0 = 0 | count 1 = 0"
            + " | pupilOf 0 0 !Index | pupil 7 = 0 | instrument 3 = 0 | pupilOf 0 0 = 7 | pupilOf 0 4 = NONE");
        e.is("more of them", "10* pupil 20 & instrument 0 | lend 9 9 | keep | 6* undo | restore | count 0 = 10 | count 1 = 10"
            + " | pupil 20 !State | instrument 0 !State | loan 0 = 99");
        e.is("a pupil, in place of another with the same number", "pupil 20 | keep | undo | pupil 7 = 0 | restore"
            + " | pupilOf 0 0 = 20 | pupilOf 0 1 = 20 | undo | pupilOf 0 0 = 7 | pupilOf 0 1 = 7");
        e.is("an instrument, in place of another with the same number", "instrument 3 | keep | undo | instrument 1 = 0 | restore"
            + " | instrumentOf 0 0 = 3 | undo | instrumentOf 0 0 = 1");
        e.is("a loan of dents, in place of a loan without", "pupil 20 | instrument 0 | dent 0 2 | lend 0 0 | keep | back 0 | mend 0"
            + " | lend 0 0 | restore | instrumentOf 0 4 = 0 | dent 0 1 | back 0 = 20");
        e.is("the settings", "set 0 50 | set 1 200 | set 2 99 | keep | set 0 0 | set 1 0 | set 2 0 | restore | count 15 = 50"
            + " | count 16 = 200 | count 17 = 99");
        e.is("the buffer stays", "type day | keep | append 59 | restore | clearBuffer = 4 | restore | clearBuffer = 0");
        e.is("the saved states stay", "pass 1 | keep | pass 1 | pass 1 | restore | count 18 = 4 | undo & count 3 = 3"
            + " | undo & count 3 = 2 | undo & count 3 = 1 | undo & count 3 = 0 | undo !State");
    }
}
