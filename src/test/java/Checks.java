/** Counts and prints the answers that are not as due. */
final class Checks {
    /** A call that answers a number, or throws. */
    interface Call {
        long answer();
    }

    private int wrong = 0;
    private int looks = 0;
    private String place = "";

    void at(String newPlace) {
        place = newPlace;
    }

    void due(String call, long got, long want) {
        looks++;
        if (got != want) {
            tell(call, String.valueOf(got), String.valueOf(want));
        }
    }

    void due(String call, double got, double want) {
        looks++;
        if (Double.compare(got, want) != 0) {
            tell(call, String.valueOf(got), String.valueOf(want));
        }
    }

    void due(String call, String got, String want) {
        looks++;
        if (!got.equals(want)) {
            tell(call, got, want);
        }
    }

    /** The call must throw exactly this class, and must leave the digest of the object as it was. */
    void dueThrow(String name, BandCornets x, Class<? extends RuntimeException> want, Call call) {
        looks++;
        long before = x.digest();
        String got;
        try {
            got = String.valueOf(call.answer());
        } catch (RuntimeException e) {
            got = e.getClass() == want ? "" : e.getClass().getSimpleName();
        }
        if (!got.isEmpty()) {
            tell(name, got, want.getSimpleName());
        }
        due(name + ", the digest behind it", x.digest(), before);
    }

    private void tell(String call, String got, String want) {
        wrong++;
        if (wrong <= 50) {
            System.out.println(place + ": " + call + " answered " + got + ", due is " + want);
        }
    }

    /** Ends the program with exit code 1 if one answer was wrong. */
    void end(String name) {
        System.out.println(name + ": " + looks + " looks, " + wrong + " wrong");
        if (wrong != 0 || looks == 0) {
            System.exit(1);
        }
    }
}
