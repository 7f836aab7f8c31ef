/** Calls of the face by their names, and their answers as texts. */
final class Calls {
    private Calls() {
    }

    /** The number that the call answers, or throws. and the exception's name. */
    static String answer(Checks.Call call) {
        try {
            return String.valueOf(call.answer());
        } catch (RuntimeException e) {
            return "throws." + e.getClass().getSimpleName();
        }
    }

    /** The call of this name; a share is answered by its bits. */
    static long callOf(BandCornets x, String name, int a, int b, int d) {
        switch (name) {
            case "pupil": return x.pupil(a);
            case "instrument": return x.instrument(a);
            case "lend": return x.lend(a, b);
            case "back": return x.back(a);
            case "dent": return x.dent(a, b);
            case "mend": return x.mend(a);
            case "pay": return x.pay(a, b);
            case "set": return x.set(a, b);
            case "pass": return x.pass(a);
            case "teach": return x.teach(a, b);
            case "march": return x.march(a);
            case "append": return x.append(a);
            case "clearBuffer": return x.clearBuffer();
            case "firstError": return x.firstError();
            case "work": return x.work();
            case "told": return x.told(a, b);
            case "undo": return x.undo();
            case "keep": return x.keep();
            case "restore": return x.restore();
            case "pupilOf": return x.pupilOf(a, b);
            case "instrumentOf": return x.instrumentOf(a, b);
            case "loan": return x.loan(a);
            case "part": return x.part(a, b, d);
            case "count": return x.count(a);
            case "noLoan": return x.noLoan(a, b);
            case "noLesson": return x.noLesson(a, b);
            case "shortOf": return x.shortOf(a);
            case "most": return x.most(a);
            case "bestMarch": return x.bestMarch();
            case "helps": return x.helps(a, b);
            case "played": return Double.doubleToLongBits(x.played());
            default: return x.digest();
        }
    }
}
