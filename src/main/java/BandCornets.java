/**
 * A brass band: pupils with lent instruments, lessons, Sunday marches, repairs and a fund.
 * The document of the project says what each call answers; its promises bear the numbers in the comments.
 */
public final class BandCornets {
    /** There is nothing to return. */
    public static final int NONE = -1;

    private static final int MARCHES = 4;
    private static final int PARTS = 4;
    private static final int TEACHERS = 3;
    private static final int SETS_OF_PARTS = 16;
    private static final int MOST_SIGNS = 60;
    private static final int MOST_SAVED = 6;
    private static final int FUND_SHIFT = 1000000;

    private static final int PUPIL_NUMBERS = 7;
    private static final int INSTRUMENT_NUMBERS = 6;
    private static final int PART_NUMBERS = 4;
    private static final int COUNTS = 19;

    private final Band now = new Band();
    private final Band snapshot = new Band();
    private boolean hasSnapshot = false;
    private final Band[] saved = new Band[MOST_SAVED];
    private int savedCount = 0;
    private final Text buffer = new Text();
    private final int[] lineUp = new int[PARTS];
    private final StringBuilder lineUpText = new StringBuilder();

    /** Promise 1. */
    public BandCornets() {
        for (int k = 0; k < MOST_SAVED; k++) {
            saved[k] = new Band();
        }
    }

    // ---- pupils, instruments

    /** Promise 2: lets a pupil come. */
    public int pupil(int lungs) throws IllegalArgumentException, IllegalStateException {
        if (lungs < 5 || lungs > 30) {
            throw new IllegalArgumentException("lungs are 5 to 30");
        }
        if (!now.hasRoomForPupil()) {
            throw new IllegalStateException("there are 10 pupils");
        }
        save();
        return now.addPupil(lungs);
    }

    /** Promise 3: gets an instrument. */
    public int instrument(int kind) throws IllegalArgumentException, IllegalStateException {
        if (kind < 0 || kind > 3) {
            throw new IllegalArgumentException("a kind is 0 to 3");
        }
        if (!now.hasRoomForInstrument()) {
            throw new IllegalStateException("there are 10 instruments");
        }
        save();
        return now.addInstrument(kind);
    }

    /** Promise 4: lends an instrument. */
    public int lend(int instrument, int pupil) throws IndexOutOfBoundsException, IllegalStateException {
        Instrument thing = now.instrumentAt(instrument);
        Pupil who = now.pupilAt(pupil);
        if (thing == null || who == null) {
            throw new IndexOutOfBoundsException("no such instrument or pupil");
        }
        if (now.whyNoLoan(thing, who) != 0) {
            throw new IllegalStateException("the loan is not possible");
        }
        save();
        now.tryLend(instrument, pupil);
        return now.loans;
    }

    /** Promise 5: brings an instrument back. */
    public int back(int instrument) throws IndexOutOfBoundsException, IllegalStateException {
        Instrument thing = now.instrumentAt(instrument);
        if (thing == null) {
            throw new IndexOutOfBoundsException("no such instrument");
        }
        if (!thing.isLent()) {
            throw new IllegalStateException("it is lent to nobody");
        }
        int bill = now.billFor(thing);
        save();
        now.tryBack(instrument);
        return bill;
    }

    /** Promise 6: gives an instrument dents. */
    public int dent(int instrument, int dents) throws IndexOutOfBoundsException, IllegalArgumentException {
        Instrument thing = now.instrumentAt(instrument);
        if (thing == null) {
            throw new IndexOutOfBoundsException("no such instrument");
        }
        if (dents < 1 || dents > 9) {
            throw new IllegalArgumentException("dents are 1 to 9");
        }
        save();
        thing.addDents(dents);
        return thing.dents;
    }

    /** Promise 7: repairs an instrument. */
    public int mend(int instrument) throws IndexOutOfBoundsException, IllegalStateException {
        Instrument thing = now.instrumentAt(instrument);
        if (thing == null) {
            throw new IndexOutOfBoundsException("no such instrument");
        }
        if (thing.isLent()) {
            throw new IllegalStateException("it is lent");
        }
        int price = thing.priceOfRepair();
        save();
        now.tryMend(instrument);
        return price;
    }

    /** Promise 8: lets a pupil pay. */
    public int pay(int pupil, int pence) throws IndexOutOfBoundsException, IllegalArgumentException {
        Pupil who = now.pupilAt(pupil);
        if (who == null) {
            throw new IndexOutOfBoundsException("no such pupil");
        }
        if (pence < 1 || pence > 999) {
            throw new IllegalArgumentException("pence are 1 to 999");
        }
        save();
        return now.takePayment(who, pence);
    }

    /** Promise 9: changes a setting. */
    public int set(int setting, int value) throws IndexOutOfBoundsException, IllegalArgumentException {
        if (!now.isSetting(setting)) {
            throw new IndexOutOfBoundsException("no such setting");
        }
        if (value < 0 || value > now.highestOf(setting)) {
            throw new IllegalArgumentException("the value is out of range");
        }
        save();
        int previous = now.settingAt(setting);
        now.changeSetting(setting, value);
        return previous;
    }

    // ---- days, lessons, marches

    /** Promise 10: lets days pass. */
    public int pass(int days) throws IllegalArgumentException {
        if (days < 1 || days > 30) {
            throw new IllegalArgumentException("days are 1 to 30");
        }
        save();
        for (int k = 0; k < days; k++) {
            now.passDay();
        }
        return now.day;
    }

    /** Promise 11: gives a pupil a lesson. */
    public int teach(int pupil, int teacher) throws IndexOutOfBoundsException, IllegalStateException {
        Pupil who = now.pupilAt(pupil);
        if (who == null || !isTeacher(teacher)) {
            throw new IndexOutOfBoundsException("no such pupil or teacher");
        }
        if (now.whyNoLesson(who, teacher) != 0) {
            throw new IllegalStateException("the lesson is not possible");
        }
        save();
        now.tryTeach(pupil, teacher);
        return who.lips;
    }

    /** Promise 12: plays a march. */
    public int march(int march) throws IndexOutOfBoundsException, IllegalStateException {
        if (!isMarch(march)) {
            throw new IndexOutOfBoundsException("no such march");
        }
        if (!now.mayMarch()) {
            throw new IllegalStateException("no march can be played on this day, or not any more");
        }
        save();
        return playMarch(march);
    }

    // ---- texts

    /** Promise 13: appends a character to the buffer. */
    public int append(int code) throws IllegalArgumentException, IllegalStateException {
        if (code < 33 || code > 126) {
            throw new IllegalArgumentException("a code is 33 to 126");
        }
        if (buffer.length() >= MOST_SIGNS) {
            throw new IllegalStateException("the buffer has 60 characters");
        }
        buffer.add((char) code);
        return buffer.length();
    }

    /** Promise 14: clears the buffer. */
    public int clearBuffer() {
        int length = buffer.length();
        buffer.clear();
        return length;
    }

    /** Promise 15: finds the first syntax error of the buffer. */
    public int firstError() {
        return buffer.firstWrong();
    }

    /** Promise 16: does what the buffer tells. */
    public int work() throws IllegalArgumentException {
        if (!buffer.isComplete()) {
            throw new IllegalArgumentException("the buffer is not complete works as a text");
        }
        save();
        int done = 0;
        int start = 0;
        boolean goesOn = true;
        for (int at = 0; goesOn && at <= buffer.length(); at++) {
            if (buffer.isEndOfPart(at)) {
                goesOn = doPart(start, at);
                done += goesOn ? 1 : 0;
                start = at + 1;
            }
        }
        buffer.clear();
        return done;
    }

    /** Promise 17: tells a character of the line-up of a march. */
    public int told(int march, int index) throws IndexOutOfBoundsException, IllegalArgumentException {
        if (!isMarch(march)) {
            throw new IndexOutOfBoundsException("no such march");
        }
        if (index < 0) {
            throw new IllegalArgumentException("an index is 0 or more");
        }
        tellLineUp(march);
        return index < lineUpText.length() ? lineUpText.charAt(index) : NONE;
    }

    // ---- undo, the snapshot

    /** Promise 18: restores the latest saved state. */
    public int undo() throws IllegalStateException {
        if (savedCount < 1 || savedCount > saved.length) {
            throw new IllegalStateException("no state is saved");
        }
        savedCount--;
        now.copyFrom(saved[savedCount]);
        return savedCount;
    }

    /** Promise 19: takes a snapshot. */
    public int keep() {
        snapshot.copyFrom(now);
        hasSnapshot = true;
        return now.day;
    }

    /** Promise 20: restores the state of the snapshot. */
    public int restore() throws IllegalStateException {
        if (!hasSnapshot) {
            throw new IllegalStateException("there is no snapshot");
        }
        save();
        now.copyFrom(snapshot);
        return now.day;
    }

    // ---- looks; nothing is changed

    /** Promise 21: tells something of a pupil. */
    public int pupilOf(int pupil, int what) throws IndexOutOfBoundsException, IllegalArgumentException {
        Pupil who = now.pupilAt(pupil);
        if (who == null) {
            throw new IndexOutOfBoundsException("no such pupil");
        }
        if (what < 0 || what >= PUPIL_NUMBERS) {
            throw new IllegalArgumentException("what is 0 to 6");
        }
        return who.number(what);
    }

    /** Promise 22: tells something of an instrument. */
    public int instrumentOf(int instrument, int what) throws IndexOutOfBoundsException, IllegalArgumentException {
        Instrument thing = now.instrumentAt(instrument);
        if (thing == null) {
            throw new IndexOutOfBoundsException("no such instrument");
        }
        if (what < 0 || what >= INSTRUMENT_NUMBERS) {
            throw new IllegalArgumentException("what is 0 to 5");
        }
        return thing.number(what);
    }

    /** Promise 23: tells a loan. */
    public int loan(int place) throws IllegalArgumentException {
        if (place < 0) {
            throw new IllegalArgumentException("a place is 0 or more");
        }
        return now.loanAt(place);
    }

    /** Promise 24: tells what a part needs. */
    public int part(int march, int part, int what) throws IndexOutOfBoundsException, IllegalArgumentException {
        if (!isMarch(march) || part < 0 || part >= PARTS) {
            throw new IndexOutOfBoundsException("no such march or part");
        }
        if (what < 0 || what >= PART_NUMBERS) {
            throw new IllegalArgumentException("what is 0 to 3");
        }
        return partNumber(march, part, what);
    }

    /** Promise 25: tells a number. */
    public int count(int what) throws IllegalArgumentException {
        if (what < 0 || what >= COUNTS) {
            throw new IllegalArgumentException("what is 0 to 18");
        }
        return countNumber(what);
    }

    // ---- what would be; nothing is changed

    /** Promise 26: tells why a loan is not possible. */
    public int noLoan(int instrument, int pupil) throws IndexOutOfBoundsException {
        Instrument thing = now.instrumentAt(instrument);
        Pupil who = now.pupilAt(pupil);
        if (thing == null || who == null) {
            throw new IndexOutOfBoundsException("no such instrument or pupil");
        }
        return now.whyNoLoan(thing, who);
    }

    /** Promise 27: tells why a lesson is not possible. */
    public int noLesson(int pupil, int teacher) throws IndexOutOfBoundsException {
        Pupil who = now.pupilAt(pupil);
        if (who == null || !isTeacher(teacher)) {
            throw new IndexOutOfBoundsException("no such pupil or teacher");
        }
        return now.whyNoLesson(who, teacher);
    }

    /** Promise 28: tells how many parts a march would be short of. */
    public int shortOf(int march) throws IndexOutOfBoundsException {
        if (!isMarch(march)) {
            throw new IndexOutOfBoundsException("no such march");
        }
        return fillLineUp(march);
    }

    /** Promise 29: tells the most parts that could be filled. */
    public int most(int march) throws IndexOutOfBoundsException {
        if (!isMarch(march)) {
            throw new IndexOutOfBoundsException("no such march");
        }
        return mostParts(march);
    }

    /** Promise 30: finds the march that earns most now. */
    public int bestMarch() {
        int best = 0;
        int mostPence = penceFor(fillLineUp(0));
        for (int march = 1; march < MARCHES; march++) {
            int pence = penceFor(fillLineUp(march));
            if (pence > mostPence) {
                best = march;
                mostPence = pence;
            }
        }
        return best;
    }

    /** Promise 31: finds the pupil whose lesson helps a march. */
    public int helps(int march, int teacher) throws IndexOutOfBoundsException {
        if (!isMarch(march) || !isTeacher(teacher)) {
            throw new IndexOutOfBoundsException("no such march or teacher");
        }
        return helper(march, teacher);
    }

    /** Promise 32: tells which share of the parts was played. */
    public double played() {
        int parts = now.marches * PARTS;
        if (parts <= 0) {
            return 1.0;
        }
        return (double) (parts - now.shortParts) / (double) parts;
    }

    /** Promise 33: computes a hash of the whole state. */
    public long digest() {
        long hash = 3733;
        for (int what = 0; what < COUNTS; what++) {
            hash = mix(hash, countNumber(what));
        }
        hash = mixPupils(hash);
        hash = mixInstruments(hash);
        for (int place = 0; place < now.loans; place++) {
            hash = mix(hash, now.loanAt(place));
        }
        for (int march = 0; march < MARCHES; march++) {
            hash = mixMarch(hash, march);
        }
        hash = mix(hash, bestMarch());
        hash = mix(hash, bitsOfShare(played()));
        hash = mix(hash, buffer.length());
        for (int k = 0; k < buffer.length(); k++) {
            hash = mix(hash, buffer.signAt(k));
        }
        return hash;
    }

    // ---- what the face is made of

    private static boolean isMarch(int march) {
        return march >= 0 && march < MARCHES;
    }

    private static boolean isTeacher(int teacher) {
        return teacher >= 0 && teacher < TEACHERS;
    }

    /** Saves the state; when all places are taken, the oldest state's object is used again. */
    private void save() {
        if (savedCount >= MOST_SAVED) {
            Band oldest = saved[0];
            for (int k = 1; k < MOST_SAVED; k++) {
                saved[k - 1] = saved[k];
            }
            saved[MOST_SAVED - 1] = oldest;
            savedCount = MOST_SAVED - 1;
        }
        if (savedCount >= 0 && savedCount < saved.length) {
            saved[savedCount].copyFrom(now);
            savedCount++;
        }
    }

    private static int kindOfPart(int march, int part) {
        return (march + part / 2) % 4;
    }

    private static int breathOfPart(int part) {
        return 4 + 2 * part;
    }

    private static int lipsOfPart(int march, int part) {
        int lips = 2 + 3 * march - 2 * part;
        return lips < 1 ? 1 : lips;
    }

    private int partNumber(int march, int part, int what) {
        switch (what) {
            case 0:
                return kindOfPart(march, part);
            case 1:
                return breathOfPart(part);
            case 2:
                return lipsOfPart(march, part);
            default:
                fillLineUp(march);
                return playerOf(part);
        }
    }

    private boolean couldPlay(Pupil who, int march, int part) {
        Instrument own = now.instrumentAt(who.instrument);
        return own != null && own.isPlayable() && own.kind == kindOfPart(march, part)
            && who.breath >= breathOfPart(part) && who.lips >= lipsOfPart(march, part);
    }

    /** Fills the row lineUp with the pupils who get the parts, and returns how many parts are short. */
    private int fillLineUp(int march) {
        int taken = 0;
        int shortParts = 0;
        for (int part = 0; part < PARTS; part++) {
            int best = bestFor(march, part, taken);
            lineUp[part] = best;
            if (best == NONE) {
                shortParts++;
            } else {
                taken |= 1 << best;
            }
        }
        return shortParts;
    }

    /** The pupil who gets the part; taken has a bit for each pupil who has a part already. */
    private int bestFor(int march, int part, int taken) {
        int best = NONE;
        int bestLips = NONE;
        for (int pupil = 0; pupil < now.pupils; pupil++) {
            Pupil who = now.pupilAt(pupil);
            boolean isFree = (taken >> pupil & 1) == 0;
            if (who != null && isFree && who.lips > bestLips && couldPlay(who, march, part)) {
                best = pupil;
                bestLips = who.lips;
            }
        }
        return best;
    }

    /** The pupil of a part in the row that was filled last. */
    private int playerOf(int part) {
        return part >= 0 && part < lineUp.length ? lineUp[part] : NONE;
    }

    private int penceFor(int shortParts) {
        int pence = now.settingAt(2) * (PARTS - shortParts);
        return shortParts == 0 ? 2 * pence : pence;
    }

    private int playMarch(int march) {
        int shortParts = fillLineUp(march);
        for (int part = 0; part < PARTS; part++) {
            now.playPart(playerOf(part), breathOfPart(part));
        }
        now.endMarch(shortParts, penceFor(shortParts));
        return shortParts;
    }

    /** Goes through the pupils and keeps, as bits, which sets of parts those so far can fill. */
    private int mostParts(int march) {
        int reached = 1;
        for (int pupil = 0; pupil < now.pupils; pupil++) {
            Pupil who = now.pupilAt(pupil);
            int before = reached;
            for (int part = 0; who != null && part < PARTS; part++) {
                if (couldPlay(who, march, part)) {
                    reached |= withPart(before, part);
                }
            }
        }
        int most = 0;
        for (int set = 0; set < SETS_OF_PARTS; set++) {
            if ((reached >> set & 1) != 0) {
                most = Math.max(most, Integer.bitCount(set));
            }
        }
        return most;
    }

    /** The sets of parts that come of the given ones when one part is put to each. */
    private static int withPart(int sets, int part) {
        int more = 0;
        for (int set = 0; set < SETS_OF_PARTS; set++) {
            if ((sets >> set & 1) != 0) {
                more |= 1 << (set | 1 << part);
            }
        }
        return more;
    }

    private int helper(int march, int teacher) {
        int shortNow = fillLineUp(march);
        for (int pupil = 0; pupil < now.pupils; pupil++) {
            Pupil who = now.pupilAt(pupil);
            if (who != null && now.whyNoLesson(who, teacher) == 0) {
                // The lesson is given for the look alone, so it is taken back at once.
                int breath = now.breathOfLesson(who);
                who.learn(1, breath);
                int shortThen = fillLineUp(march);
                who.learn(-1, -breath);
                if (shortThen < shortNow) {
                    return pupil;
                }
            }
        }
        return NONE;
    }

    private static String nameOf(int kind) {
        switch (kind) {
            case 0:
                return "cornet";
            case 1:
                return "horn";
            case 2:
                return "baritone";
            default:
                return "tuba";
        }
    }

    private void tellLineUp(int march) {
        fillLineUp(march);
        lineUpText.setLength(0);
        for (int part = 0; part < PARTS; part++) {
            if (part > 0) {
                lineUpText.append(',');
            }
            lineUpText.append(nameOf(kindOfPart(march, part)));
            lineUpText.append(':');
            int player = playerOf(part);
            if (player == NONE) {
                lineUpText.append('-');
            } else {
                lineUpText.append(player);
            }
        }
    }

    /** Does the part of the buffer from start on and before end; false, with nothing changed, if it is not possible. */
    private boolean doPart(int start, int end) {
        int last = buffer.figureAt(end - 1);
        switch (buffer.wholeWord(start, end)) {
            case Text.LEND:
                return now.tryLend(buffer.figureAt(end - 2), last);
            case Text.BACK:
                return now.tryBack(last);
            case Text.TEACH:
                return now.tryTeach(buffer.figureAt(end - 2), last);
            case Text.MARCH:
                if (!isMarch(last) || !now.mayMarch()) {
                    return false;
                }
                playMarch(last);
                return true;
            case Text.MEND:
                return now.tryMend(last);
            case Text.DAY:
                now.passDay();
                return true;
            default:
                return false;
        }
    }

    private int countNumber(int what) {
        switch (what) {
            case 15:
            case 16:
            case 17:
                return now.settingAt(what - 15);
            case 18:
                return savedCount;
            default:
                return now.number(what);
        }
    }

    private static long mix(long hash, long value) {
        return 31 * hash + value;
    }

    private long mixPupils(long before) {
        long hash = before;
        for (int pupil = 0; pupil < now.pupils; pupil++) {
            Pupil who = now.pupilAt(pupil);
            if (who != null) {
                for (int what = 0; what < PUPIL_NUMBERS; what++) {
                    hash = mix(hash, who.number(what));
                }
                for (int teacher = 0; teacher < TEACHERS; teacher++) {
                    hash = mix(hash, now.whyNoLesson(who, teacher));
                }
            }
        }
        return hash;
    }

    private long mixInstruments(long before) {
        long hash = before;
        for (int instrument = 0; instrument < now.instruments; instrument++) {
            Instrument thing = now.instrumentAt(instrument);
            if (thing != null) {
                for (int what = 0; what < INSTRUMENT_NUMBERS; what++) {
                    hash = mix(hash, thing.number(what));
                }
            }
        }
        return hash;
    }

    private long mixMarch(long before, int march) {
        long hash = mix(before, fillLineUp(march));
        hash = mix(hash, mostParts(march));
        hash = mix(hash, helper(march, 2));
        tellLineUp(march);
        for (int k = 0; k < lineUpText.length(); k++) {
            hash = mix(hash, lineUpText.charAt(k));
        }
        return hash;
    }

    /** The bits of a double from 0.0 to 1.0; LANGUAGE.md leaves no Double.doubleToLongBits. */
    private static long bitsOfShare(double share) {
        if (share <= 0.0) {
            return 0L;
        }
        long exponent = 1023;
        double scaled = share;
        for (int k = 0; k < 1000 && scaled < 1.0; k++) {
            scaled *= 2.0;
            exponent--;
        }
        // Both the subtraction and the product by 2^52 are exact, so that no bit is lost.
        return (exponent << 52) + (long) ((scaled - 1.0) * 4503599627370496.0);
    }

    /** Its object is used again behind an undo, by another pupil of the same number, so that come sets every number. */
    private static final class Pupil {
        int lungs;
        int breath;
        int lips;
        int debt;
        int instrument;
        boolean hadLesson;
        int marches;

        void come(int itsLungs) {
            lungs = itsLungs;
            breath = itsLungs;
            lips = 1;
            debt = 0;
            instrument = NONE;
            hadLesson = false;
            marches = 0;
        }

        void copyFrom(Pupil other) {
            lungs = other.lungs;
            breath = other.breath;
            lips = other.lips;
            debt = other.debt;
            instrument = other.instrument;
            hadLesson = other.hadLesson;
            marches = other.marches;
        }

        void learn(int moreLips, int lessBreath) {
            lips += moreLips;
            breath -= lessBreath;
        }

        int number(int what) {
            switch (what) {
                case 0:
                    return lungs;
                case 1:
                    return breath;
                case 2:
                    return lips;
                case 3:
                    return debt;
                case 4:
                    return instrument;
                case 5:
                    return hadLesson ? 1 : 0;
                default:
                    return marches;
            }
        }
    }

    /** Its object is used again behind an undo, as that of a pupil is, so that come sets every number here too. */
    private static final class Instrument {
        static final int MOST_DENTS = 9;
        static final int DENTS_OF_NO_PLAY = 5;
        static final int PENCE_OF_REPAIR = 15;
        static final int MARCHES_OF_A_DENT = 3;

        int kind;
        int dents;
        int holder;
        int dentsWhenLent;
        int marches;

        void come(int itsKind) {
            kind = itsKind;
            dents = 0;
            holder = NONE;
            dentsWhenLent = 0;
            marches = 0;
        }

        void copyFrom(Instrument other) {
            kind = other.kind;
            dents = other.dents;
            holder = other.holder;
            dentsWhenLent = other.dentsWhenLent;
            marches = other.marches;
        }

        boolean isLent() {
            return holder != NONE;
        }

        boolean isPlayable() {
            return dents < DENTS_OF_NO_PLAY;
        }

        int dentsSinceLent() {
            return dents - dentsWhenLent;
        }

        int priceOfRepair() {
            return PENCE_OF_REPAIR * dents;
        }

        void addDents(int more) {
            dents = Math.min(MOST_DENTS, dents + more);
        }

        void playMarch() {
            marches++;
            if (marches % MARCHES_OF_A_DENT == 0) {
                addDents(1);
            }
        }

        int number(int what) {
            switch (what) {
                case 0:
                    return kind;
                case 1:
                    return dents;
                case 2:
                    return holder;
                case 3:
                    return marches;
                case 4:
                    return isLent() ? dentsSinceLent() : NONE;
                default:
                    return isPlayable() ? 1 : 0;
            }
        }
    }

    /** The whole state that undo and the snapshot bring back. */
    private static final class Band {
        static final int MOST_PUPILS = 10;
        static final int MOST_INSTRUMENTS = 10;
        static final int BREATH_OF_A_DAY = 4;
        static final int[] HIGHEST_SETTINGS = {50, 200, 99};

        final Pupil[] pupilRoll = new Pupil[MOST_PUPILS];
        int pupils = 0;
        final Instrument[] instrumentRoll = new Instrument[MOST_INSTRUMENTS];
        int instruments = 0;
        /** The lent instruments, in the order in which their loans began. */
        final int[] lent = new int[MOST_INSTRUMENTS];
        int loans = 0;
        final int[] settings = {20, 60, 30};
        int day = 0;
        boolean marchedToday = false;
        int lessons = 0;
        int marches = 0;
        int shortParts = 0;
        int fund = 0;
        int earned = 0;
        int debtsPaid = 0;
        int feesPaid = 0;
        int repairsPaid = 0;

        Band() {
            for (int k = 0; k < MOST_PUPILS; k++) {
                pupilRoll[k] = new Pupil();
            }
            for (int k = 0; k < MOST_INSTRUMENTS; k++) {
                instrumentRoll[k] = new Instrument();
            }
        }

        void copyFrom(Band other) {
            for (int k = 0; k < MOST_PUPILS; k++) {
                pupilRoll[k].copyFrom(other.pupilRoll[k]);
            }
            pupils = other.pupils;
            for (int k = 0; k < MOST_INSTRUMENTS; k++) {
                instrumentRoll[k].copyFrom(other.instrumentRoll[k]);
            }
            instruments = other.instruments;
            System.arraycopy(other.lent, 0, lent, 0, MOST_INSTRUMENTS);
            loans = other.loans;
            System.arraycopy(other.settings, 0, settings, 0, HIGHEST_SETTINGS.length);
            day = other.day;
            marchedToday = other.marchedToday;
            lessons = other.lessons;
            marches = other.marches;
            shortParts = other.shortParts;
            fund = other.fund;
            earned = other.earned;
            debtsPaid = other.debtsPaid;
            feesPaid = other.feesPaid;
            repairsPaid = other.repairsPaid;
        }

        /** The pupil of this number; null if there is none. */
        Pupil pupilAt(int pupil) {
            if (pupil < 0 || pupil >= pupils || pupil >= pupilRoll.length) {
                return null;
            }
            return pupilRoll[pupil];
        }

        /** The instrument of this number; null if there is none. */
        Instrument instrumentAt(int instrument) {
            if (instrument < 0 || instrument >= instruments || instrument >= instrumentRoll.length) {
                return null;
            }
            return instrumentRoll[instrument];
        }

        boolean hasRoomForPupil() {
            return pupils < MOST_PUPILS;
        }

        boolean hasRoomForInstrument() {
            return instruments < MOST_INSTRUMENTS;
        }

        int addPupil(int lungs) {
            pupils++;
            Pupil who = pupilAt(pupils - 1);
            if (who != null) {
                who.come(lungs);
            }
            return pupils - 1;
        }

        int addInstrument(int kind) {
            instruments++;
            Instrument thing = instrumentAt(instruments - 1);
            if (thing != null) {
                thing.come(kind);
            }
            return instruments - 1;
        }

        boolean isSetting(int setting) {
            return setting >= 0 && setting < HIGHEST_SETTINGS.length;
        }

        int highestOf(int setting) {
            return isSetting(setting) ? HIGHEST_SETTINGS[setting] : 0;
        }

        int settingAt(int setting) {
            return isSetting(setting) ? settings[setting] : 0;
        }

        void changeSetting(int setting, int value) {
            if (isSetting(setting)) {
                settings[setting] = value;
            }
        }

        int whyNoLoan(Instrument thing, Pupil who) {
            if (thing.isLent()) {
                return 1;
            }
            if (who.instrument != NONE) {
                return 2;
            }
            if (!thing.isPlayable()) {
                return 3;
            }
            if (who.debt > settingAt(1)) {
                return 4;
            }
            return who.lungs < 3 * thing.kind + 5 ? 5 : 0;
        }

        boolean tryLend(int instrument, int pupil) {
            Instrument thing = instrumentAt(instrument);
            Pupil who = pupilAt(pupil);
            if (thing == null || who == null || whyNoLoan(thing, who) != 0) {
                return false;
            }
            thing.holder = pupil;
            thing.dentsWhenLent = thing.dents;
            who.instrument = instrument;
            if (loans >= 0 && loans < lent.length) {
                lent[loans] = instrument;
                loans++;
            }
            return true;
        }

        int billFor(Instrument thing) {
            return settingAt(0) * thing.dentsSinceLent();
        }

        boolean tryBack(int instrument) {
            Instrument thing = instrumentAt(instrument);
            if (thing == null || !thing.isLent()) {
                return false;
            }
            Pupil who = pupilAt(thing.holder);
            if (who != null) {
                who.debt += billFor(thing);
                who.instrument = NONE;
            }
            thing.holder = NONE;
            dropLoan(instrument);
            return true;
        }

        private void dropLoan(int instrument) {
            int kept = 0;
            for (int k = 0; k < loans && k < lent.length; k++) {
                if (lent[k] != instrument) {
                    lent[kept] = lent[k];
                    kept++;
                }
            }
            loans = kept;
        }

        int loanAt(int place) {
            if (place < 0 || place >= loans || place >= lent.length) {
                return NONE;
            }
            Instrument thing = instrumentAt(lent[place]);
            return thing == null ? NONE : 10 * lent[place] + thing.holder;
        }

        boolean tryMend(int instrument) {
            Instrument thing = instrumentAt(instrument);
            if (thing == null || thing.isLent()) {
                return false;
            }
            int price = thing.priceOfRepair();
            repairsPaid += price;
            fund -= price;
            thing.dents = 0;
            return true;
        }

        int takePayment(Pupil who, int pence) {
            int paid = Math.min(pence, who.debt);
            who.debt -= paid;
            debtsPaid += paid;
            fund += paid;
            return paid;
        }

        boolean isSunday() {
            return day % 7 == 6;
        }

        void passDay() {
            day++;
            marchedToday = false;
            for (int pupil = 0; pupil < pupils; pupil++) {
                Pupil who = pupilAt(pupil);
                if (who != null) {
                    who.breath = Math.min(who.lungs, who.breath + BREATH_OF_A_DAY);
                    who.hadLesson = false;
                }
            }
        }

        private static int heightOf(int teacher) {
            switch (teacher) {
                case 0:
                    return 8;
                case 1:
                    return 14;
                default:
                    return 20;
            }
        }

        private static int feeOf(int teacher) {
            switch (teacher) {
                case 0:
                    return 10;
                case 1:
                    return 25;
                default:
                    return 60;
            }
        }

        /** The breath that a lesson of this pupil takes; that of a cornet, if it has no instrument. */
        int breathOfLesson(Pupil who) {
            Instrument own = instrumentAt(who.instrument);
            return own == null ? 3 : 3 + own.kind;
        }

        int whyNoLesson(Pupil who, int teacher) {
            Instrument own = instrumentAt(who.instrument);
            if (own == null || !own.isPlayable()) {
                return 1;
            }
            if (who.hadLesson) {
                return 2;
            }
            if (who.lips >= heightOf(teacher)) {
                return 3;
            }
            return who.breath < breathOfLesson(who) ? 4 : 0;
        }

        boolean tryTeach(int pupil, int teacher) {
            Pupil who = pupilAt(pupil);
            if (who == null || !isTeacher(teacher) || whyNoLesson(who, teacher) != 0) {
                return false;
            }
            who.learn(1, breathOfLesson(who));
            who.hadLesson = true;
            lessons++;
            feesPaid += feeOf(teacher);
            fund -= feeOf(teacher);
            return true;
        }

        boolean mayMarch() {
            return isSunday() && !marchedToday;
        }

        /** Lets a pupil play a part; nothing happens for a part that is short. */
        void playPart(int pupil, int breath) {
            Pupil who = pupilAt(pupil);
            if (who == null) {
                return;
            }
            who.breath -= breath;
            who.marches++;
            Instrument own = instrumentAt(who.instrument);
            if (own != null) {
                own.playMarch();
            }
        }

        void endMarch(int partsShort, int pence) {
            marchedToday = true;
            marches++;
            shortParts += partsShort;
            earned += pence;
            fund += pence;
        }

        int debtsTogether() {
            int sum = 0;
            for (int pupil = 0; pupil < pupils; pupil++) {
                Pupil who = pupilAt(pupil);
                sum += who == null ? 0 : who.debt;
            }
            return sum;
        }

        /** The numbers 0 to 14 of promise 25. */
        int number(int what) {
            switch (what) {
                case 0:
                    return pupils;
                case 1:
                    return instruments;
                case 2:
                    return loans;
                case 3:
                    return day;
                case 4:
                    return isSunday() ? 1 : 0;
                case 5:
                    return lessons;
                case 6:
                    return marches;
                case 7:
                    return shortParts;
                case 8:
                    return fund + FUND_SHIFT;
                case 9:
                    return earned + debtsPaid - feesPaid - repairsPaid + FUND_SHIFT;
                case 10:
                    return earned;
                case 11:
                    return debtsPaid;
                case 12:
                    return feesPaid;
                case 13:
                    return repairsPaid;
                default:
                    return debtsTogether();
            }
        }
    }

    /** The buffer, and what it means as works. */
    private static final class Text {
        static final int LEND = 0;
        static final int BACK = 1;
        static final int TEACH = 2;
        static final int MARCH = 3;
        static final int MEND = 4;
        static final int DAY = 5;
        static final int WORDS = 6;

        final StringBuilder signs = new StringBuilder();

        int length() {
            return signs.length();
        }

        void add(char sign) {
            signs.append(sign);
        }

        void clear() {
            signs.setLength(0);
        }

        char signAt(int at) {
            return at >= 0 && at < signs.length() ? signs.charAt(at) : ' ';
        }

        int figureAt(int at) {
            char sign = signAt(at);
            return sign >= '0' && sign <= '9' ? sign - '0' : NONE;
        }

        /** A word with its numbers; a figure stands for all the figures up to it. */
        private static String formOf(int word) {
            switch (word) {
                case LEND:
                    return "lend99";
                case BACK:
                    return "back9";
                case TEACH:
                    return "teach92";
                case MARCH:
                    return "march3";
                case MEND:
                    return "mend9";
                default:
                    return "day";
            }
        }

        private static boolean fits(char sign, char wanted) {
            if (wanted >= '0' && wanted <= '9') {
                return sign >= '0' && sign <= wanted;
            }
            return sign == wanted;
        }

        /** If the form begins with the characters from start on and before end. */
        private boolean begins(String form, int start, int end) {
            if (end - start > form.length()) {
                return false;
            }
            for (int k = 0; k < end - start && k < form.length(); k++) {
                if (!fits(signAt(start + k), form.charAt(k))) {
                    return false;
                }
            }
            return true;
        }

        private boolean beginsAny(int start, int end) {
            for (int word = 0; word < WORDS; word++) {
                if (begins(formOf(word), start, end)) {
                    return true;
                }
            }
            return false;
        }

        /** The word that the characters from start on and before end tell wholly; NONE if there is none. */
        int wholeWord(int start, int end) {
            for (int word = 0; word < WORDS; word++) {
                String form = formOf(word);
                if (form.length() == end - start && begins(form, start, end)) {
                    return word;
                }
            }
            return NONE;
        }

        boolean isEndOfPart(int at) {
            return at == signs.length() || signAt(at) == ';';
        }

        int firstWrong() {
            int start = 0;
            for (int at = 0; at < signs.length(); at++) {
                if (signAt(at) == ';' && wholeWord(start, at) != NONE) {
                    start = at + 1;
                } else if (!beginsAny(start, at + 1)) {
                    return at;
                }
            }
            return signs.length();
        }

        boolean isComplete() {
            int start = 0;
            for (int at = 0; at <= signs.length(); at++) {
                if (isEndOfPart(at)) {
                    if (wholeWord(start, at) == NONE) {
                        return false;
                    }
                    start = at + 1;
                }
            }
            return true;
        }
    }
}
