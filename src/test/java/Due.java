/** Compares answers with those that are due; a test ends with end(). */
final class Due {
    interface Call {
        long ask();
    }

    private static int asked = 0;
    private static int wrong = 0;

    private Due() {
    }

    static void is(long want, String what, Call call) {
        asked++;
        try {
            long got = call.ask();
            if (got != want) {
                report(what, String.valueOf(got), String.valueOf(want));
            }
        } catch (RuntimeException thrown) {
            report(what, thrown.toString(), String.valueOf(want));
        }
    }

    static void text(String want, String what, String got) {
        asked++;
        if (!want.equals(got)) {
            report(what, got, want);
        }
    }

    static void yes(String what, boolean isSo) {
        asked++;
        if (!isSo) {
            report(what, "no", "yes");
        }
    }

    /** The very class, not one below it: what the machine throws would often be one of those. */
    static void fails(Class<?> kind, String what, CurvekeyHouse house, Call call) {
        asked++;
        long before = house.digest();
        String got = "nothing";
        try {
            call.ask();
        } catch (RuntimeException thrown) {
            got = thrown.getClass().getSimpleName();
        }
        if (!kind.getSimpleName().equals(got)) {
            report(what + " throws", got, kind.getSimpleName());
        }
        if (house.digest() != before) {
            report(what + " changed the store", "another digest", "the same one");
        }
    }

    static void end() {
        System.out.println(asked + " asked, " + wrong + " wrong");
        if (wrong != 0 || asked == 0) {
            System.exit(1);
        }
    }

    private static void report(String what, String got, String want) {
        wrong++;
        if (wrong <= 50) {
            System.out.println(what + ": answered " + got + ", due is " + want);
        }
    }
}
