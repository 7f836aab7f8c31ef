/** The edges of the promises 1 to 9 and 26: the new band, pupils, instruments, loans, repairs, debts, settings. */
final class EdgesOfPupils {
    private static final String TEN = "10* pupil 20 & instrument 0";

    private EdgesOfPupils() {
    }

    static void all(Edges e) {
        newBand(e);
        pupil(e);
        instrument(e);
        lend(e);
        noLoan(e);
        noLoanInTurn(e);
        back(e);
        dent(e);
        mend(e);
        pay(e);
        set(e);
    }

    private static void newBand(Edges e) {
        e.at(1, "Creates a band without pupils, instruments and a snapshot, on the day 0, with an empty buffer.");
        e.is("no pupil", "count 0 = 0 | pupilOf 0 0 !Index");
        e.is("no instrument", "count 1 = 0 | instrumentOf 0 0 !Index");
        e.is("no loan", "count 2 = 0 | loan 0 = NONE");
        e.is("no snapshot", "restore !State");
        e.is("the day 0 is no Sunday", "count 3 = 0 | count 4 = 0 | march 0 !State");
        e.is("an empty buffer", "firstError = 0 | work !Argument | clearBuffer = 0");
        e.is("no saved state", "count 18 = 0 | undo !State");
        e.is("nothing is counted", "count 5 = 0 | count 6 = 0 | count 7 = 0 | count 10 = 0 | count 11 = 0 | count 12 = 0"
            + " | count 13 = 0 | count 14 = 0");
        e.is("the fund is 0", "count 8 = 1000000 | count 9 = 1000000");
        e.at(1, "0: pence for a dent, 0 to 50, at first 20; 1: the greatest debt of a loan, 0 to 200, at first 60; "
            + "2: pence for a part, 0 to 99, at first 30.");
        e.is("at first", "count 15 = 20 | count 16 = 60 | count 17 = 30");
        e.at(1, "An object is used for at most 512 calls after it has been made");
        e.is("the 512th call changes", "511* pass 30 | pass 30 = 15360");
        e.is("the 512th call is refused", "511* pass 30 | pass 31 !Argument");
        e.is("the 512th call looks", "511* pass 30 | count 3 = 15330");
        e.is("the 512th call undoes", "511* pass 30 | undo = 5");
    }

    private static void pupil(Edges e) {
        e.at(2, "`lungs`: 5 to 30");
        e.each("is taken", "pupil ? = 0 | pupilOf 0 0 = ? | count 0 = 1", "5 6 29 30");
        e.at(2, "Throws `IllegalArgumentException` if lungs is out of range");
        e.each("is refused", "pupil ? !Argument | count 0 = 0", "4 31 0 -1 -5 -30 MIN MAX");
        e.each("is refused behind 9 pupils", "9* pupil 20 | pupil ? !Argument | count 0 = 9 | pupil 20 = 9", "4 31");
        e.at(2, "There are at most 10 pupils, numbered from 0");
        e.is("each number up to 9", "pupil 5 = 0 | pupil 5 = 1 | pupil 5 = 2 | pupil 5 = 3 | pupil 5 = 4 | pupil 5 = 5"
            + " | pupil 5 = 6 | pupil 5 = 7 | pupil 5 = 8 | pupil 5 = 9 | count 0 = 10");
        e.at(2, "Throws `IllegalStateException` if there are 10");
        e.is("the 10th comes", "9* pupil 20 | pupil 30 = 9 | count 0 = 10 | pupilOf 9 0 = 30");
        e.is("the 11th does not", "10* pupil 20 | pupil 20 !State | count 0 = 10 | pupilOf 10 0 !Index");
        e.is("another 10th comes behind undo", "10* pupil 20 | undo = 5 | pupil 7 = 9 | pupilOf 9 0 = 7");
        e.at(2, "If several exceptions apply, the one that is named first in the throws clause is thrown.");
        e.each("wrong lungs of an 11th", "10* pupil 20 | pupil ? !Argument", "4 31 MIN MAX");
        e.at(2, "a breath, at first as much as its lungs; lips, 0 to 20, at first 1; and a debt, at first 0.");
        e.each("is the breath of as much lungs", "pupil ? | pupilOf 0 1 = ?", "5 30");
        e.is("lips", "pupil 5 | pupilOf 0 2 = 1");
        e.is("debt", "pupil 5 | pupilOf 0 3 = 0 | count 14 = 0");
        e.is("no instrument, lesson, march", "pupil 5 | pupilOf 0 4 = NONE | pupilOf 0 5 = 0 | pupilOf 0 6 = 0");
        e.at(2, "Lets a pupil come. Undoable.");
        e.is("the first", "digest = @a | pupil 5 | count 18 = 1 | undo = 0 | digest = @a | pupilOf 0 0 !Index");
        e.is("the 10th", "6* instrument 0 | 9* pupil 20 | pupil 5 = 9 | undo = 5 | count 0 = 9 | pupilOf 9 0 !Index");
    }

    private static void instrument(Edges e) {
        e.at(3, "`kind`: 0 to 3");
        e.each("is taken", "instrument ? = 0 | instrumentOf 0 0 = ? | count 1 = 1", "0 1 2 3");
        e.at(3, "Throws `IllegalArgumentException` if kind is out of range");
        e.each("is refused", "instrument ? !Argument | count 1 = 0", "-1 4 MIN MAX");
        e.each("is refused behind 9", "9* instrument 0 | instrument ? !Argument | count 1 = 9 | instrument 0 = 9", "-1 4");
        e.at(3, "each of a kind, \"cornet\", \"horn\", \"baritone\" or \"tuba\" (0 to 3)");
        e.is("the first and the last kind by name", "line 0 = cornet:-,cornet:-,horn:-,horn:-"
            + " | line 2 = baritone:-,baritone:-,tuba:-,tuba:-");
        e.at(3, "There are at most 10 instruments, numbered from 0");
        e.is("each number up to 9", "instrument 0 = 0 | instrument 1 = 1 | instrument 2 = 2 | instrument 3 = 3"
            + " | instrument 3 = 4 | instrument 2 = 5 | instrument 1 = 6 | instrument 0 = 7 | instrument 0 = 8"
            + " | instrument 3 = 9 | count 1 = 10 | instrumentOf 9 0 = 3");
        e.at(3, "Throws `IllegalStateException` if there are 10");
        e.is("the 10th is got", "9* instrument 0 | instrument 1 = 9 | count 1 = 10 | instrumentOf 9 0 = 1");
        e.is("the 11th is not", "10* instrument 0 | instrument 0 !State | count 1 = 10 | instrumentOf 10 0 !Index");
        e.is("another 10th is got behind undo", "10* instrument 0 | undo = 5 | instrument 3 = 9 | instrumentOf 9 0 = 3");
        e.at(3, "If several exceptions apply, the one that is named first in the throws clause is thrown.");
        e.each("wrong kind of an 11th", "10* instrument 0 | instrument ? !Argument", "-1 4 MIN MAX");
        e.at(3, "with dents, 0 to 9, at first 0, and marches in which it was played. An instrument is lent to a pupil, "
            + "or to nobody");
        e.is("at first", "instrument 0 | instrumentOf 0 1 = 0 | instrumentOf 0 2 = NONE | instrumentOf 0 3 = 0"
            + " | instrumentOf 0 4 = NONE | instrumentOf 0 5 = 1");
        e.at(3, "Gets an instrument. Undoable.");
        e.is("the first", "digest = @a | instrument 3 | count 18 = 1 | undo = 0 | digest = @a | instrumentOf 0 0 !Index");
        e.is("the 10th", "9* instrument 0 | instrument 0 = 9 | undo = 5 | count 1 = 9 | instrumentOf 9 0 !Index");
    }

    private static void lend(Edges e) {
        e.at(4, "Throws `IndexOutOfBoundsException` if there is no such instrument or pupil");
        e.is("nobody and nothing", "lend 0 0 !Index");
        e.is("no pupil at all", "instrument 0 | lend 0 0 !Index");
        e.is("no instrument at all", "pupil 20 | lend 0 0 !Index");
        e.each("no such instrument", "2* pupil 20 & instrument 0 | lend ? 0 !Index", "-1 2 10 MIN MAX");
        e.each("no such pupil", "2* pupil 20 & instrument 0 | lend 0 ? !Index", "-1 2 10 MIN MAX");
        e.is("more pupils than instruments", "3* pupil 20 | instrument 0 | lend 1 1 !Index | lend 0 2 = 1");
        e.is("more instruments than pupils", "pupil 20 | 3* instrument 0 | lend 1 1 !Index | lend 2 0 = 1");
        e.is("the last of 10", TEN + " | lend 9 9 = 1 | instrumentOf 9 2 = 9 | pupilOf 9 4 = 9");
        e.is("one behind the last of 10", TEN + " | lend 10 9 !Index | lend 9 10 !Index");
        e.at(4, "Returns how many loans there are then.");
        e.is("the first and the 10th", TEN + " | lend 0 0 = 1 | lend 1 1 = 2 | lend 2 2 = 3 | lend 3 3 = 4 | lend 4 4 = 5"
            + " | lend 5 5 = 6 | lend 6 6 = 7 | lend 7 7 = 8 | lend 8 8 = 9 | lend 9 9 = 10 | count 2 = 10");
        e.is("behind one that was brought back", "2* pupil 20 & instrument 0 | lend 0 0 = 1 | back 0 | lend 1 1 = 1");
        e.at(4, "Throws `IllegalStateException` if it is not possible");
        e.is("the instrument is lent", "2* pupil 20 | instrument 0 | lend 0 0 | lend 0 1 !State");
        e.is("the instrument is lent to this pupil", "pupil 20 | instrument 0 | lend 0 0 | lend 0 0 !State");
        e.is("the pupil has one", "pupil 20 | 2* instrument 0 | lend 0 0 | lend 1 0 !State");
        e.is("it cannot be played", "pupil 20 | instrument 0 | dent 0 5 | lend 0 0 !State");
        e.is("the debt", "pupil 20 | instrument 0 | lend 0 0 | dent 0 4 | back 0 | lend 0 0 !State");
        e.is("the lungs", "pupil 7 | instrument 1 | lend 0 0 !State");
        e.at(4, "If several exceptions apply, the one that is named first in the throws clause is thrown.");
        e.is("no such instrument, and the pupil has one", "pupil 20 | instrument 0 | lend 0 0 | lend 1 0 !Index");
        e.is("no such pupil, and the instrument is lent", "pupil 20 | instrument 0 | lend 0 0 | lend 0 1 !Index");
        e.is("no such pupil, and it cannot be played", "pupil 20 | instrument 0 | dent 0 9 | lend 0 1 !Index");
        e.at(4, "An instrument is lent to a pupil, or to nobody; a pupil has at most one.");
        e.is("both tell of it", "2* pupil 20 & instrument 0 | lend 1 0 | pupilOf 0 4 = 1 | instrumentOf 1 2 = 0"
            + " | pupilOf 1 4 = NONE | instrumentOf 0 2 = NONE");
        e.at(4, "Lends an instrument. Undoable.");
        e.is("the only loan", "pupil 20 | instrument 0 | digest = @a | lend 0 0 | count 18 = 3 | undo = 2 | digest = @a"
            + " | loan 0 = NONE | pupilOf 0 4 = NONE | instrumentOf 0 2 = NONE | lend 0 0 = 1");
    }

    private static void noLoan(Edges e) {
        e.at(26, "Throws `IndexOutOfBoundsException` if there is no such instrument or pupil");
        e.is("nobody and nothing", "noLoan 0 0 !Index");
        e.is("no pupil at all", "instrument 0 | noLoan 0 0 !Index");
        e.is("no instrument at all", "pupil 20 | noLoan 0 0 !Index");
        e.each("no such instrument", "2* pupil 20 & instrument 0 | noLoan ? 0 !Index", "-1 2 10 MIN MAX");
        e.each("no such pupil", "2* pupil 20 & instrument 0 | noLoan 0 ? !Index", "-1 2 10 MIN MAX");
        e.is("the last of 10, and one behind", TEN + " | noLoan 9 9 = 0 | noLoan 10 9 !Index | noLoan 9 10 !Index");
        e.at(26, "Returns the reason, 1 to 5; 0 if it is possible.");
        e.is("possible", "pupil 20 | instrument 0 | noLoan 0 0 = 0 | lend 0 0 = 1");
        e.is("possible again", "pupil 20 | instrument 0 | lend 0 0 | noLoan 0 0 = 1 | back 0 | noLoan 0 0 = 0");
        e.at(26, "1: the instrument is lent");
        e.is("alone", "2* pupil 20 | instrument 0 | lend 0 0 | noLoan 0 1 = 1");
        e.at(26, "2: the pupil has one");
        e.is("alone", "pupil 20 | 2* instrument 0 | lend 0 0 | noLoan 1 0 = 2");
        e.at(26, "3: it cannot be played");
        e.each("dents are not too many", "pupil 20 | instrument 0 | dent 0 ? | noLoan 0 0 = 0 | lend 0 0 = 1", "1 4");
        e.each("dents are too many", "pupil 20 | instrument 0 | dent 0 ? | noLoan 0 0 = 3 | lend 0 0 !State", "5 6 9");
        e.is("a mended one is possible", "pupil 20 | instrument 0 | dent 0 5 | mend 0 | noLoan 0 0 = 0");
        e.at(26, "4: the debt of the pupil is above setting 1");
        String bill = "pupil 20 | instrument 0 | lend 0 0 | dent 0 4 | back 0 = 80";
        e.is("as high as at first", bill + " | pay 0 20 | pupilOf 0 3 = 60 | noLoan 0 0 = 0 | lend 0 0 = 1");
        e.is("higher by 1 than at first", bill + " | pay 0 19 | pupilOf 0 3 = 61 | noLoan 0 0 = 4 | lend 0 0 !State");
        e.is("as high as set", bill + " | set 1 80 | noLoan 0 0 = 0 | lend 0 0 = 1");
        e.is("higher by 1 than set", bill + " | set 1 79 | noLoan 0 0 = 4 | lend 0 0 !State");
        e.is("no debt with the setting 0", "pupil 20 | instrument 0 | set 1 0 | noLoan 0 0 = 0 | lend 0 0 = 1");
        e.is("1 with the setting 0", bill + " | set 1 0 | pay 0 79 | noLoan 0 0 = 4 | pay 0 1 | noLoan 0 0 = 0");
        String more = "pupil 20 | 2* instrument 0 | set 0 50 | lend 0 0 | dent 0 5 | back 0 = 250 | set 1 200";
        e.is("200 with the setting 200", more + " | pay 0 50 | noLoan 1 0 = 0");
        e.is("201 with the setting 200", more + " | pay 0 49 | noLoan 1 0 = 4");
        e.at(26, "5: the lungs of the pupil are less than 3 times the kind and 5, together.");
        e.is("enough for a cornet", "pupil 5 | instrument 0 | noLoan 0 0 = 0 | lend 0 0 = 1");
        for (int kind = 1; kind < 4; kind++) {
            int lungs = 3 * kind + 5;
            String two = "pupil " + lungs + " | pupil " + (lungs - 1) + " | instrument " + kind;
            e.is("as much as kind " + kind + " needs", two + " | noLoan 0 0 = 0 | lend 0 0 = 1");
            e.is("less by 1 than kind " + kind + " needs", two + " | noLoan 0 1 = 5 | lend 0 1 !State");
        }
    }

    /** Each reason stands alone before those behind it: from step to step the first one of them is taken away. */
    private static void noLoanInTurn(Edges e) {
        e.at(26, "A loan is not possible for the first of these reasons that applies");
        String all = "pupil 5 | pupil 30 | instrument 0 | instrument 3 | lend 0 0 | dent 0 4 | back 0 = 80 | set 1 80"
            + " | lend 0 0 | set 1 60 | lend 1 1 | dent 1 5";
        String from2 = all + " | back 1";
        String from3 = from2 + " | back 0 = 0";
        String from4 = from3 + " | mend 1";
        String from5 = from4 + " | pay 0 80";
        e.is("1 before 2, 3, 4, 5", all + " | noLoan 1 0 = 1 | lend 1 0 !State");
        e.is("2 before 3, 4, 5", from2 + " | noLoan 1 0 = 2 | lend 1 0 !State");
        e.is("3 before 4, 5", from3 + " | noLoan 1 0 = 3 | lend 1 0 !State");
        e.is("4 before 5", from4 + " | noLoan 1 0 = 4 | lend 1 0 !State");
        e.is("5 at last", from5 + " | noLoan 1 0 = 5 | lend 1 0 !State");
        e.is("1 before 2 alone", "pupil 20 | instrument 0 | lend 0 0 | noLoan 0 0 = 1");
        e.is("1 before 3 alone", "2* pupil 20 | instrument 0 | lend 0 0 | dent 0 5 | noLoan 0 1 = 1");
        e.is("1 before 5 alone", "pupil 20 | pupil 5 | instrument 3 | lend 0 0 | noLoan 0 1 = 1");
        e.is("2 before 3 alone", "pupil 20 | 2* instrument 0 | lend 0 0 | dent 1 5 | noLoan 1 0 = 2");
        e.is("2 before 5 alone", "pupil 5 | instrument 0 | instrument 3 | lend 0 0 | noLoan 1 0 = 2");
        e.is("3 before 5 alone", "pupil 5 | instrument 3 | dent 0 5 | noLoan 0 0 = 3");
    }

    private static void back(Edges e) {
        e.at(5, "Throws `IndexOutOfBoundsException` if there is no such instrument");
        e.is("nothing at all", "back 0 !Index");
        e.each("beside one that is lent", "pupil 20 | instrument 0 | lend 0 0 | back ? !Index", "-1 1 10 MIN MAX");
        e.is("the last of 10, and one behind", TEN + " | lend 9 9 | back 10 !Index | back 9 = 0");
        e.at(5, "Throws `IllegalStateException` if it is lent to nobody");
        e.is("never lent", "pupil 20 | instrument 0 | back 0 !State");
        e.is("brought back already", "pupil 20 | instrument 0 | lend 0 0 | back 0 = 0 | back 0 !State");
        e.is("the other one is lent", "pupil 20 | 2* instrument 0 | lend 0 0 | back 1 !State | back 0 = 0");
        e.at(5, "the debt becomes greater by setting 0 for each dent by which it has more than when it was lent.");
        e.is("no dent", "pupil 20 | instrument 0 | lend 0 0 | back 0 = 0 | pupilOf 0 3 = 0");
        e.is("one dent", "pupil 20 | instrument 0 | lend 0 0 | dent 0 1 | back 0 = 20 | pupilOf 0 3 = 20");
        e.is("9 dents", "pupil 20 | instrument 0 | lend 0 0 | dent 0 9 | back 0 = 180 | pupilOf 0 3 = 180");
        e.is("more dents than there is room for", "pupil 20 | instrument 0 | lend 0 0 | 2* dent 0 9 | back 0 = 180");
        e.is("dents from before alone", "pupil 20 | instrument 0 | dent 0 4 | lend 0 0 | back 0 = 0 | pupilOf 0 3 = 0");
        e.is("one more than 4 before", "pupil 20 | instrument 0 | dent 0 4 | lend 0 0 | dent 0 1 | back 0 = 20");
        e.is("up to 9 from 4 before", "pupil 20 | instrument 0 | dent 0 4 | lend 0 0 | dent 0 9 | back 0 = 100");
        e.is("dents of the loan before", "pupil 20 | instrument 0 | lend 0 0 | dent 0 2 | back 0 = 40 | lend 0 0"
            + " | dent 0 1 | back 0 = 20 | pupilOf 0 3 = 60");
        e.is("the setting 0", "pupil 20 | instrument 0 | set 0 0 | lend 0 0 | dent 0 9 | back 0 = 0 | pupilOf 0 3 = 0");
        e.is("the setting 50", "pupil 20 | instrument 0 | set 0 50 | lend 0 0 | dent 0 9 | back 0 = 450");
        e.is("the setting of the day on which it comes back", "pupil 20 | instrument 0 | lend 0 0 | dent 0 1 | set 0 7"
            + " | back 0 = 7");
        e.is("a dent by marching", "pupil 30 | instrument 0 | lend 0 0 | pass 6 | march 0 | 2* pass 7 & march 0"
            + " | back 0 = 20");
        e.is("the debt of this pupil alone", "2* pupil 20 & instrument 0 | lend 0 1 | lend 1 0 | dent 0 1 | back 0 = 20"
            + " | pupilOf 0 3 = 0 | pupilOf 1 3 = 20 | count 14 = 20");
        e.is("nothing goes to the fund yet", "pupil 20 | instrument 0 | lend 0 0 | dent 0 9 | back 0 | count 8 = 1000000"
            + " | count 9 = 1000000 | count 11 = 0");
        e.at(5, "Brings an instrument back. Undoable.");
        e.is("with a bill", "pupil 20 | instrument 0 | lend 0 0 | dent 0 2 | digest = @a | back 0 = 40 | count 18 = 5"
            + " | undo = 4 | digest = @a | instrumentOf 0 4 = 2 | back 0 = 40");
        e.is("the first of 3 loans", "3* pupil 20 & instrument 0 | lend 0 0 | lend 1 1 | lend 2 2 | back 0 | undo = 5"
            + " | loan 0 = 0 | loan 1 = 11 | loan 2 = 22 | loan 3 = NONE");
    }

    private static void dent(Edges e) {
        e.at(6, "Throws `IndexOutOfBoundsException` if there is no such instrument");
        e.is("nothing at all", "dent 0 1 !Index");
        e.each("beside the only one", "instrument 0 | dent ? 1 !Index", "-1 1 10 MIN MAX");
        e.is("the last of 10, and one behind", TEN + " | dent 9 1 = 1 | dent 10 1 !Index");
        e.at(6, "`dents`: 1 to 9");
        e.each("is taken", "instrument 0 | dent 0 ? = ? | instrumentOf 0 1 = ?", "1 2 8 9");
        e.at(6, "Throws `IllegalArgumentException` if dents is out of range");
        e.each("is refused", "instrument 0 | dent 0 ? !Argument | instrumentOf 0 1 = 0", "0 10 -1 -9 MIN MAX");
        e.at(6, "If several exceptions apply, the one that is named first in the throws clause is thrown.");
        e.each("wrong dents of no such instrument", "instrument 0 | dent 1 ? !Index | dent -1 ? !Index", "0 10 MIN MAX");
        e.is("wrong dents of nothing at all", "dent 0 0 !Index");
        e.at(6, "Returns its dents then, at most 9.");
        e.is("8 and 1", "instrument 0 | dent 0 8 = 8 | dent 0 1 = 9 | instrumentOf 0 1 = 9");
        e.is("8 and 2", "instrument 0 | dent 0 8 = 8 | dent 0 2 = 9 | instrumentOf 0 1 = 9");
        e.is("9 and 1", "instrument 0 | dent 0 9 = 9 | dent 0 1 = 9 | instrumentOf 0 1 = 9");
        e.is("9 and 9", "instrument 0 | dent 0 9 = 9 | dent 0 9 = 9 | instrumentOf 0 1 = 9");
        e.is("1 and 9", "instrument 0 | dent 0 1 = 1 | dent 0 9 = 9 | instrumentOf 0 1 = 9");
        e.is("the other ones have none", "3* instrument 0 | dent 1 9 = 9 | instrumentOf 0 1 = 0 | instrumentOf 2 1 = 0");
        e.at(6, "An instrument with 5 dents or more cannot be played.");
        e.each("dents are not enough for that", "instrument 0 | dent 0 ? | instrumentOf 0 5 = 1", "1 4");
        e.each("dents are enough for that", "instrument 0 | dent 0 ? | instrumentOf 0 5 = 0", "5 6 9");
        e.is("4 and 1", "instrument 0 | dent 0 4 = 4 | instrumentOf 0 5 = 1 | dent 0 1 = 5 | instrumentOf 0 5 = 0");
        e.at(6, "Gives an instrument dents, as when it falls. Undoable.");
        e.is("one dent", "instrument 0 | digest = @a | dent 0 1 | count 18 = 2 | undo = 1 | digest = @a");
        e.is("one that is lent", "pupil 20 | instrument 0 | lend 0 0 | digest = @a | dent 0 9 | instrumentOf 0 4 = 9"
            + " | undo = 3 | digest = @a");
        e.at(6, "saves the state from before it (also if it changes nothing)");
        e.is("9 and 9", "instrument 0 | dent 0 9 | count 18 = 2 | dent 0 9 | count 18 = 3 | undo = 2 | instrumentOf 0 1 = 9"
            + " | undo = 1 | instrumentOf 0 1 = 0");
    }

    private static void mend(Edges e) {
        e.at(7, "Throws `IndexOutOfBoundsException` if there is no such instrument");
        e.is("nothing at all", "mend 0 !Index");
        e.each("beside the only one", "instrument 0 | dent 0 1 | mend ? !Index", "-1 1 10 MIN MAX");
        e.is("the last of 10, and one behind", TEN + " | dent 9 1 | mend 9 = 15 | mend 10 !Index");
        e.at(7, "Throws `IllegalStateException` if it is lent");
        e.is("with dents", "pupil 20 | instrument 0 | lend 0 0 | dent 0 9 | mend 0 !State | instrumentOf 0 1 = 9");
        e.is("without dents", "pupil 20 | instrument 0 | lend 0 0 | mend 0 !State");
        e.is("brought back", "pupil 20 | instrument 0 | lend 0 0 | dent 0 1 | mend 0 !State | back 0 | mend 0 = 15");
        e.at(7, "An instrument that is lent to nobody can be repaired");
        e.is("never lent", "pupil 20 | instrument 0 | dent 0 9 | mend 0 = 135");
        e.is("lent, and lent no more", "pupil 20 | instrument 0 | dent 0 4 | lend 0 0 | mend 0 !State | back 0 | mend 0 = 60");
        e.at(7, "its dents are gone; the band pays 15 for each.");
        e.is("no dent", "instrument 0 | mend 0 = 0 | instrumentOf 0 1 = 0 | count 8 = 1000000 | count 13 = 0");
        e.is("one dent", "instrument 0 | dent 0 1 | mend 0 = 15 | instrumentOf 0 1 = 0 | count 8 = 999985 | count 13 = 15");
        e.is("9 dents", "instrument 0 | dent 0 9 | mend 0 = 135 | instrumentOf 0 1 = 0 | count 8 = 999865 | count 13 = 135");
        e.is("twice", "instrument 0 | dent 0 9 | mend 0 = 135 | mend 0 = 0 | count 13 = 135");
        e.is("5 dents are gone", "instrument 0 | dent 0 5 | instrumentOf 0 5 = 0 | mend 0 = 75 | instrumentOf 0 5 = 1");
        e.is("those of the other stay", "2* instrument 0 | dent 0 2 | dent 1 3 | mend 1 = 45 | instrumentOf 0 1 = 2");
        e.at(7, "it can be below 0.");
        e.is("a first repair", "instrument 0 | dent 0 1 | mend 0 | count 8 = 999985 | count 9 = 999985");
        e.at(7, "Repairs an instrument. Undoable.");
        e.is("with dents", "instrument 0 | dent 0 9 | digest = @a | mend 0 | count 18 = 3 | undo = 2 | digest = @a");
        e.at(7, "saves the state from before it (also if it changes nothing)");
        e.is("without dents", "instrument 0 | mend 0 = 0 | count 18 = 2 | undo = 1");
    }

    private static void pay(Edges e) {
        String debt = "pupil 20 | instrument 0 | lend 0 0 | dent 0 3 | back 0 = 60";
        e.at(8, "Throws `IndexOutOfBoundsException` if there is no such pupil");
        e.is("nobody at all", "pay 0 1 !Index");
        e.each("beside the only one", "pupil 20 | pay ? 1 !Index", "-1 1 10 MIN MAX");
        e.is("the last of 10, and one behind", TEN + " | pay 9 1 = 0 | pay 10 1 !Index");
        e.at(8, "`pence`: 1 to 999");
        e.is("1", debt + " | pay 0 1 = 1 | pupilOf 0 3 = 59");
        e.is("999", debt + " | pay 0 999 = 60 | pupilOf 0 3 = 0");
        e.at(8, "Throws `IllegalArgumentException` if pence is out of range");
        e.each("is refused", debt + " | pay 0 ? !Argument | pupilOf 0 3 = 60", "0 1000 -1 -999 MIN MAX");
        e.each("is refused without a debt", "pupil 20 | pay 0 ? !Argument", "0 1000");
        e.at(8, "If several exceptions apply, the one that is named first in the throws clause is thrown.");
        e.each("wrong pence of no such pupil", "pupil 20 | pay 1 ? !Index | pay -1 ? !Index", "0 1000 MIN MAX");
        e.is("wrong pence of nobody at all", "pay 0 0 !Index");
        e.at(8, "Returns what is paid: pence, but at most the debt.");
        e.is("1 of it", debt + " | pay 0 1 = 1 | pupilOf 0 3 = 59 | count 14 = 59");
        e.is("1 less than the debt", debt + " | pay 0 59 = 59 | pupilOf 0 3 = 1 | count 14 = 1");
        e.is("all the debt", debt + " | pay 0 60 = 60 | pupilOf 0 3 = 0 | count 14 = 0");
        e.is("1 more than the debt", debt + " | pay 0 61 = 60 | pupilOf 0 3 = 0 | count 14 = 0");
        e.is("no debt", "pupil 20 | pay 0 1 = 0 | pay 0 999 = 0 | count 11 = 0 | count 8 = 1000000");
        e.is("paid already", debt + " | pay 0 999 = 60 | pay 0 999 = 0 | count 11 = 60");
        e.is("it goes to the fund", debt + " | pay 0 59 | count 8 = 1000059 | count 9 = 1000059 | count 11 = 59");
        e.is("what is too much does not", debt + " | pay 0 999 | count 8 = 1000060 | count 9 = 1000060 | count 11 = 60");
        e.at(8, "A pupil can pay its debt, or a part of it, to the band.");
        e.is("part by part", debt + " | pay 0 1 = 1 | pay 0 58 = 58 | pay 0 1 = 1 | pay 0 1 = 0 | count 11 = 60");
        e.is("the debt of this pupil alone", "2* pupil 20 & instrument 0 | lend 0 0 | lend 1 1 | dent 0 1 | dent 1 1 | back 0"
            + " | back 1 | pay 1 999 = 20 | pupilOf 0 3 = 20 | pupilOf 1 3 = 0");
        e.at(8, "Lets a pupil pay. Undoable.");
        e.is("a part of the debt", debt + " | digest = @a | pay 0 1 | count 18 = 6 | undo = 5 | digest = @a");
        e.at(8, "saves the state from before it (also if it changes nothing)");
        e.is("no debt", "pupil 20 | pay 0 1 = 0 | count 18 = 2 | undo = 1 | count 0 = 1");
    }

    private static void set(Edges e) {
        e.at(9, "`setting`: 0 to 2");
        e.each("is a setting", "set ? 50", "0 1 2");
        e.at(9, "Throws `IndexOutOfBoundsException` if there is no such setting");
        e.each("no such setting", "set ? 0 !Index | count 15 = 20 | count 16 = 60 | count 17 = 30", "-1 3 MIN MAX");
        e.at(9, "0: pence for a dent, 0 to 50, at first 20");
        e.each("is taken", "set 0 ? = 20 | count 15 = ? | count 16 = 60 | count 17 = 30", "0 1 49 50");
        e.at(9, "1: the greatest debt of a loan, 0 to 200, at first 60");
        e.each("is taken", "set 1 ? = 60 | count 16 = ? | count 15 = 20 | count 17 = 30", "0 1 51 100 199 200");
        e.at(9, "2: pence for a part, 0 to 99, at first 30");
        e.each("is taken", "set 2 ? = 30 | count 17 = ? | count 15 = 20 | count 16 = 60", "0 1 51 98 99");
        e.at(9, "Throws `IllegalArgumentException` if value is out of range");
        e.each("is refused for the setting 0", "set 0 ? !Argument | count 15 = 20", "-1 51 99 200 MIN MAX");
        e.each("is refused for the setting 1", "set 1 ? !Argument | count 16 = 60", "-1 201 MIN MAX");
        e.each("is refused for the setting 2", "set 2 ? !Argument | count 17 = 30", "-1 100 200 MIN MAX");
        e.at(9, "Returns the previous value.");
        e.is("setting 0", "set 0 50 = 20 | set 0 0 = 50 | set 0 1 = 0");
        e.is("setting 1", "set 1 200 = 60 | set 1 0 = 200 | set 1 1 = 0");
        e.is("setting 2", "set 2 99 = 30 | set 2 0 = 99 | set 2 1 = 0");
        e.at(9, "If several exceptions apply, the one that is named first in the throws clause is thrown.");
        e.each("a wrong value of no such setting", "set 3 ? !Index | set -1 ? !Index | set MAX ? !Index", "-1 201 MIN MAX");
        e.at(9, "Changes a setting. Undoable.");
        e.each("this setting", "digest = @a | set ? 7 | count 18 = 1 | undo = 0 | digest = @a", "0 1 2");
        e.at(9, "saves the state from before it (also if it changes nothing)");
        e.is("the same value", "set 0 20 = 20 | count 18 = 1 | undo = 0");
    }
}
