/** The edges of the promises 13 to 17: the buffer, its errors, works as a text, line-ups as texts. */
final class EdgesOfTexts {
    private static final String FIFTY_NINE = "day;day;day;day;day;day;day;day;day;day;day;day;day;day;day";
    private static final String SIXTY_DONE = "lend00;back0;day;day;day;day;day;day;day;day;day;day;day;day";
    private static final String TEN = "10* pupil 20 & instrument 0";

    private EdgesOfTexts() {
    }

    static void all(Edges e) {
        append(e);
        clearBuffer(e);
        firstError(e);
        figures(e);
        endsOfParts(e);
        work(e);
        workStops(e);
        workUndone(e);
        told(e);
    }

    private static void append(Edges e) {
        e.at(13, "`code`: the character code, 33 to 126");
        e.each("is taken", "append ? = 1 | append ? = 2", "33 34 47 48 57 58 59 97 125 126");
        e.at(13, "Throws `IllegalArgumentException` if code is not 33 to 126");
        e.each("is refused", "append ? !Argument | append 100 = 1 | append ? !Argument | clearBuffer = 1",
            "32 127 0 -1 -33 10 128 255 353 65633 MIN MAX");
        e.at(13, "The buffer has at most 60 characters.");
        e.is("the 60th", "59* append 100 | append 33 = 60 | clearBuffer = 60");
        e.is("the first 60 of any code", "30* append 33 & append 126 | clearBuffer = 60");
        e.at(13, "Throws `IllegalStateException` if the buffer has 60 characters");
        e.each("as a 61st", "60* append 100 | append ? !State | clearBuffer = 60", "33 100 126");
        e.is("as a 61st of works", "type " + SIXTY_DONE + " | append 59 !State | firstError = 60");
        e.is("behind clearing there is room again", "60* append 100 | append 100 !State | clearBuffer | append 100 = 1");
        e.at(13, "If several exceptions apply, the one that is named first in the throws clause is thrown.");
        e.each("as a 61st", "60* append 100 | append ? !Argument | clearBuffer = 60", "32 127 0 -1 MIN MAX");
        e.at(13, "Returns the new length of the buffer.");
        e.is("the first and the second", "append 126 = 1 | append 33 = 2");
        e.at(13, "Appends a character to the buffer.");
        e.is("nothing is saved", "append 100 | count 18 = 0 | undo !State");
    }

    private static void clearBuffer(Edges e) {
        e.at(14, "Returns the length that it had.");
        e.is("empty", "clearBuffer = 0 | clearBuffer = 0");
        e.is("one", "append 33 | clearBuffer = 1 | clearBuffer = 0");
        e.is("full", "60* append 126 | clearBuffer = 60 | clearBuffer = 0 | append 33 = 1");
        e.at(14, "Clears the buffer.");
        e.is("nothing is saved", "append 100 | clearBuffer | count 18 = 0 | undo !State");
        e.is("the digest of an empty one", "digest = @a | append 100 | clearBuffer | digest = @a");
    }

    private static void firstError(Edges e) {
        e.at(15, "Returns the index of the first character that is a syntax error; the length of the buffer if there is none.");
        e.is("empty", "firstError = 0");
        e.is("the first of one is wrong", "type x | firstError = 0");
        e.is("the only one is right", "type d | firstError = 1");
        e.is("full and right", "type " + SIXTY_DONE + " | firstError = 60");
        e.is("full, the last is wrong", "type " + FIFTY_NINE + " | append 33 | firstError = 59");
        e.is("full, the first is wrong", "append 33 | type " + FIFTY_NINE + " | firstError = 0");
        e.is("full of what is wrong", "60* append 126 | firstError = 0");
        e.is("the first of two", "type dayxx | firstError = 3");
        e.is("the first, though what follows is right", "type xday;day | firstError = 0");
        e.is("nothing is saved", "type x | firstError | count 18 = 0");
        e.at(15, "a character is a syntax error if no works as a text, of any length, begin with the characters before it and "
            + "this character.");
        e.is("a full buffer that goes on", "type " + FIFTY_NINE + "; | firstError = 60");
        e.is("a full buffer that ends in a word", "type lend00;day;day;day;day;day;day;day;day;day;day;day;day;day;d"
            + " | firstError = 60");
        for (String word : new String[] {"lend", "back", "teach", "march", "mend", "day"}) {
            for (int k = 1; k <= word.length(); k++) {
                e.is("'" + word.substring(0, k) + "' begins one", "type " + word.substring(0, k) + " | firstError = " + k);
                e.is("'" + word.substring(0, k - 1) + "#' begins none", "type " + word.substring(0, k - 1)
                    + "# | firstError = " + (k - 1));
            }
        }
        for (String first : new String[] {"b", "d", "l", "m", "t"}) {
            e.is("'" + first + "' begins one behind ';'", "type day;" + first + " | firstError = 5");
        }
        for (String first : new String[] {"a", "c", "e", "k", "n", "s", "u", "B", "D", "L", "M", "T", "0", "9", ";", ":"}) {
            e.is("'" + first + "' begins none", "type " + first + " | firstError = 0");
            e.is("'" + first + "' begins none behind ';'", "type day;" + first + " | firstError = 4");
        }
        e.is("'m' goes on with 'a' or 'e' alone", "type mb | firstError = 1");
        e.is("'mard' and 'menc'", "type mard | firstError = 3 | clearBuffer | type menc | firstError = 3");
    }

    private static void figures(Edges e) {
        e.at(15, "\"lend\", an instrument, 0 to 9, and a pupil, 0 to 9");
        e.each("is taken first", "type lend?0 | firstError = 6", "0 1 8 9");
        e.each("is taken second", "type lend0? | firstError = 6", "0 1 8 9");
        e.each("is refused first", "type lend?0 | firstError = 4", "/ : ; a A -");
        e.each("is refused second", "type lend0? | firstError = 5", "/ : ; a A -");
        e.each("is refused third", "type lend00? | firstError = 6", "0 9 / : a");
        e.at(15, "\"back\" and an instrument");
        e.each("is taken", "type back? | firstError = 5", "0 9");
        e.each("is refused", "type back? | firstError = 4", "/ : ; a");
        e.each("is refused second", "type back0? | firstError = 5", "0 9 : a");
        e.at(15, "\"teach\", a pupil and a teacher, 0 to 2");
        e.each("is taken first", "type teach?0 | firstError = 7", "0 3 9");
        e.each("is taken second", "type teach9? | firstError = 7", "0 1 2");
        e.each("is refused first", "type teach?0 | firstError = 5", "/ : ; a");
        e.each("is refused second", "type teach9? | firstError = 6", "3 9 / : ; a");
        e.each("is refused third", "type teach00? | firstError = 7", "0 2 : a");
        e.at(15, "\"march\" and a march, 0 to 3");
        e.each("is taken", "type march? | firstError = 6", "0 1 2 3");
        e.each("is refused", "type march? | firstError = 5", "4 9 / : ; a");
        e.each("is refused second", "type march0? | firstError = 6", "0 3 : a");
        e.at(15, "\"mend\" and an instrument");
        e.each("is taken", "type mend? | firstError = 5", "0 9");
        e.each("is refused", "type mend? | firstError = 4", "/ : ; a");
        e.each("is refused second", "type mend0? | firstError = 5", "0 9 : a");
        e.at(15, "or \"day\" (a day passes).");
        e.each("is refused behind it", "type day? | firstError = 3", "0 1 9 d : a s");
    }

    private static void endsOfParts(Edges e) {
        e.at(15, "Works as a text are one or more parts with \";\" between them");
        for (String part : new String[] {"lend00", "back0", "teach00", "march0", "mend0", "day"}) {
            e.is("'" + part + "' alone, and before ';'", "type " + part + " | firstError = " + part.length()
                + " | append 59 | firstError = " + (part.length() + 1) + " | append 59 | firstError = " + (part.length() + 1));
        }
        e.is("';' behind each part", "type lend99;back9;teach92;march3;mend9;day; | firstError = 38");
        e.is("no ';' at first", "type ;day | firstError = 0");
        e.is("no two of them", "type day;;day | firstError = 4");
        e.is("none behind half a word", "type da; | firstError = 2");
        e.is("none before the figures", "type lend;00 | firstError = 4");
        e.is("none between the figures", "type lend0;0 | firstError = 5");
        e.is("no other sign", "type day,day | firstError = 3 | clearBuffer | type day:day | firstError = 3");
        e.is("none left out", "type dayday | firstError = 3 | clearBuffer | type back0day | firstError = 5");
    }

    private static void work(Edges e) {
        e.at(16, "Throws `IllegalArgumentException` if the buffer is not complete works as a text (the buffer stays)");
        e.is("empty", "work !Argument | clearBuffer = 0 | count 18 = 0");
        for (String text : new String[] {"d", "da", "day;", ";", ";day", "day;;day", "day;d", "lend", "lend0", "lend000",
            "back", "back00", "teach", "teach0", "teach03", "march", "march4", "march00", "mend", "mend00", "day0", "dayday",
            "day,day", "Day", "lend/0", "lend0:", "back:", "mend/", "march/", "teach:0"}) {
            e.is("'" + text + "'", "pupil 20 | instrument 0 | pass 6 | type " + text + " | work !Argument | count 3 = 6"
                + " | count 18 = 3 | clearBuffer = " + text.length());
        }
        e.is("a full buffer that goes on", "type " + FIFTY_NINE + "; | work !Argument | count 3 = 0 | clearBuffer = 60");
        e.is("a full buffer of what is wrong", "60* append 33 | work !Argument | clearBuffer = 60");
        e.is("wrong in its last part alone", "type day;day;da | work !Argument | count 3 = 0 | append 121 | work = 3");
        e.at(16, "Returns how many parts are done.");
        e.is("one part", "type day | work = 1 | count 3 = 1");
        e.is("two parts", "type day;day | work = 2 | count 3 = 2");
        e.is("15 parts, one character less than full", "type " + FIFTY_NINE + " | work = 15 | count 3 = 15");
        e.is("a full buffer", "pupil 20 | instrument 0 | type " + SIXTY_DONE + " | work = 14 | count 3 = 12 | count 2 = 0");
        e.is("each word", "pupil 30 | instrument 0 | dent 0 1 | type mend0;lend00;teach00;back0 | work = 4 | count 13 = 15"
            + " | count 5 = 1 | count 2 = 0 | type day;day;day;day;day;day;march3;day | work = 8 | count 6 = 1 | count 3 = 7");
        e.is("the figures 9", TEN + " | dent 9 1 | type mend9;lend99;teach92;lend09 | work = 3 | loan 0 = 99"
            + " | pupilOf 9 2 = 2 | count 12 = 60 | type back9 | work = 1");
        e.at(16, "Each number is one figure, right behind the word: lend37 lends the instrument 3 to the pupil 7.");
        e.is("the figures in their order", TEN + " | type lend37;lend73 | work = 2 | loan 0 = 37 | loan 1 = 73"
            + " | pupilOf 7 4 = 3 | pupilOf 3 4 = 7");
        e.is("no second figure of a number", TEN + " | type lend037 | work !Argument | clearBuffer | type back10 | work !Argument");
        e.each("is a teacher", "pupil 20 | instrument 0 | type lend00;teach0? | work = 2 | pupilOf 0 2 = 2", "0 1 2");
        e.each("is a march", "pass 6 | type march? | work = 1 | count 6 = 1", "0 1 2 3");
        e.at(16, "and clears the buffer.");
        e.is("all done", "type day | work = 1 | clearBuffer = 0 | work !Argument");
        e.is("nothing done", "type mend0 | work = 0 | clearBuffer = 0 | work !Argument");
    }

    private static void workStops(Edges e) {
        e.at(16, "Does what the buffer tells, part by part, up to the first part for which the method would throw an exception");
        e.is("the first part", "type mend0;day;day | work = 0 | count 3 = 0");
        e.is("the second part", "type day;mend0;day | work = 1 | count 3 = 1");
        e.is("the last part", "type day;day;mend0 | work = 2 | count 3 = 2");
        e.is("the first of two", "type day;mend0;day;mend0;day | work = 1 | count 3 = 1");
        String band = "2* pupil 20 | 2* instrument 0 | lend 0 0 | dent 1 5 | pass 6 | type day;day;day;day;day;day;day;";
        e.each("is not possible", band + "?;day | work = 7 | count 3 = 13 | count 2 = 1 | count 18 = 6", "lend20 lend02 lend99"
            + " lend00 lend01 lend10 lend11 back1 back2 back9 teach10 teach20 teach92 mend0 mend2 mend9");
        e.each("is possible", band + "?;day | work = 9 | count 3 = 14", "back0 teach00 march0 march3 mend1");
        e.is("a lesson twice", "pupil 20 | instrument 0 | type lend00;teach00;teach00;day | work = 2 | pupilOf 0 2 = 2"
            + " | count 3 = 0");
        e.is("a lesson on two days", "pupil 20 | instrument 0 | type lend00;teach00;day;teach00 | work = 4 | pupilOf 0 2 = 3");
        e.is("a march on no Sunday", "pass 5 | type march0;day | work = 0 | count 3 = 5");
        e.is("a march on a Sunday", "pass 5 | type day;march0;day | work = 3 | count 3 = 7");
        e.is("a march on the day behind", "pass 5 | type day;day;march0 | work = 2 | count 6 = 0");
        e.is("a march twice", "pass 6 | type march0;march1;day | work = 1 | count 6 = 1 | count 3 = 6");
        e.is("the debt that a part before it brings", "pupil 20 | instrument 0 | lend 0 0 | dent 0 4 | type back0;lend00"
            + " | work = 1 | count 2 = 0");
        e.is("the repair that a part before it did", "pupil 20 | instrument 0 | dent 0 5 | type lend00 | work = 0"
            + " | type mend0;lend00 | work = 2");
    }

    private static void workUndone(Edges e) {
        e.at(16, "Undoable, as one call, also if nothing is done.");
        e.is("many parts", "digest = @a | type " + FIFTY_NINE + " | work = 15 | count 18 = 1 | undo = 0 | digest = @a");
        e.is("nothing done", "pass 1 | digest = @a | type mend0 | work = 0 | count 18 = 2 | undo = 1 | digest = @a");
        e.is("some done", "pupil 20 | digest = @a | type day;mend0;day | work = 1 | count 18 = 2 | undo = 1 | digest = @a");
        e.is("nothing done, with 6 saved states", "7* pass 1 | type mend0 | work = 0 | count 18 = 6 | undo = 5 | count 3 = 7"
            + " | 5* undo | count 3 = 2 | undo !State");
        e.is("the buffer is not brought back", "type day | work = 1 | undo = 0 | clearBuffer = 0");
    }

    private static void told(Edges e) {
        e.at(17, "Throws `IndexOutOfBoundsException` if there is no such march");
        e.each("no such march", "told ? 0 !Index", "-1 4 MIN MAX");
        e.at(17, "Throws `IllegalArgumentException` if index is below 0");
        e.each("is refused", "told 0 ? !Argument | told 3 ? !Argument", "-1 -2 MIN");
        e.at(17, "If several exceptions apply, the one that is named first in the throws clause is thrown.");
        e.each("no such march, an index below 0", "told ? -1 !Index | told ? MIN !Index", "-1 4 MIN MAX");
        e.at(17, "`index`: 0 or more");
        e.each("is taken", "told 0 ? ", "0 1 30 31 MAX");
        e.at(17, "Returns the code of the character at this index of the text, from 0; NONE if it has not so many.");
        e.is("the first", "told 0 0 = 99 | told 1 0 = 104 | told 2 0 = 98 | told 3 0 = 116");
        e.is("the last, and one behind", "told 0 30 = 45 | told 0 31 = NONE | told 3 30 = 45 | told 3 31 = NONE"
            + " | told 1 34 = 45 | told 1 35 = NONE");
        e.each("is far behind", "told 0 ? = NONE | told 3 ? = NONE", "100 1000 MAX");
        e.at(17, "for each part the name of its kind, \":\", and the number of the pupil who gets it, or \"-\" if it is short, "
            + "with \",\" between two parts.");
        e.is("march 0, nobody", "line 0 = cornet:-,cornet:-,horn:-,horn:-");
        e.is("march 1, nobody", "line 1 = horn:-,horn:-,baritone:-,baritone:-");
        e.is("march 2, nobody", "line 2 = baritone:-,baritone:-,tuba:-,tuba:-");
        e.is("march 3, from the last kind to the first", "line 3 = tuba:-,tuba:-,cornet:-,cornet:-");
        e.is("all parts", "4* pupil 30 | 2* instrument 0 | 2* instrument 1 | lend 0 0 | lend 1 1 | lend 2 2 | lend 3 3"
            + " | teach 0 0 | line 0 = cornet:0,cornet:1,horn:2,horn:3");
        e.is("the pupil 9", "10* pupil 30 | instrument 0 | lend 0 9 | line 0 = cornet:-,cornet:9,horn:-,horn:-");
        e.at(17, "as it would be now");
        e.is("behind a loan, and without it", "pupil 30 | instrument 1 | told 0 23 = 45 | told 0 24 = 44 | lend 0 0"
            + " | told 0 23 = 48 | told 0 24 = 44 | back 0 | told 0 23 = 45");
    }
}
