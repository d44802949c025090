/** Compares answers with those that are due; a test ends with end(). */
final class Due {
    interface Call {
        long ask();
    }

    interface Number {
        long ask(CurvekeyHouse house, int number);
    }

    private static int asked = 0;
    private static int wrong = 0;
    private static int askedAsSaid = -1;
    private static String said = "";

    private Due() {
    }

    /**
     * Names the sentence of the document that the checks behind it are about: those of a promise, or,
     * with 0, of the description. SentencesTest looks whether the document has it, and whether none is left out.
     */
    static void says(int promise, String sentence) {
        if (asked == askedAsSaid) {
            report("says(\"" + said + "\")", "nothing is looked at", "a check");
        }
        askedAsSaid = asked;
        said = promise + ": " + sentence;
    }

    static void is(long want, String what, Call call) {
        asked++;
        try {
            long got = call.ask();
            if (got != want) {
                report(what, String.valueOf(got), String.valueOf(want));
            }
        } catch (RuntimeException thrown) {
            report(what, thrown.toString(), String.valueOf(want));
        }
    }

    static void text(String want, String what, String got) {
        asked++;
        if (!want.equals(got)) {
            report(what, got, want);
        }
    }

    static void yes(String what, boolean isSo) {
        asked++;
        if (!isSo) {
            report(what, "no", "yes");
        }
    }

    /** The very class, not one below it: what the machine throws would often be one of those. */
    static void fails(Class<?> kind, String what, CurvekeyHouse house, Call call) {
        asked++;
        long before = house.digest();
        String got = "nothing";
        try {
            call.ask();
        } catch (RuntimeException thrown) {
            got = thrown.getClass().getSimpleName();
        }
        if (!kind.getSimpleName().equals(got)) {
            report(what + " throws", got, kind.getSimpleName());
        }
        if (house.digest() != before) {
            report(what + " changed the store", "another digest", "the same one");
        }
    }

    /** The call is refused in such a store, by this very class, and nothing shows it later. */
    static void refuses(Class<?> kind, String what, Picture.Store store, Picture.Question call) {
        asked++;
        String got = Picture.thrownBy(store.build(), call);
        if (!kind.getName().equals(got)) {
            report(what + " throws", got.isEmpty() ? "nothing" : got, kind.getName());
        }
        changesNothing(what, store, call);
    }

    /** The call is not refused in such a store. */
    static void allows(String what, Picture.Store store, Picture.Question call) {
        asked++;
        String got = Picture.thrownBy(store.build(), call);
        if (!got.isEmpty()) {
            report(what + " throws", got, "nothing");
        }
    }

    /** Whatever the call answers, nothing shows later that it was made. */
    static void changesNothing(String what, Picture.Store store, Picture.Question call) {
        asked++;
        int change = Picture.firstChange(store, call);
        if (change >= 0) {
            report(what + " changed the store", "another answer to question " + change, "the same one");
        }
    }

    /** Both stores answer all alike. */
    static void alike(String what, Picture.Store one, Picture.Store other) {
        asked++;
        int difference = Picture.firstDifference(one, other);
        if (difference >= 0) {
            report(what, "another answer to question " + difference, "the same one");
        }
    }

    /** least and most are allowed in such a store, and what lies beyond either is refused. */
    static void ranges(int least, int most, Class<?> kind, String what, Picture.Store store, Number call) {
        for (int number : new int[] {least, most}) {
            allows(what + " of " + number, store, house -> call.ask(house, number));
        }
        for (int number : outside(least, most)) {
            refuses(kind, what + " of " + number, store, house -> call.ask(house, number));
        }
    }

    static int[] outside(int least, int most) {
        return new int[] {least - 1, most + 1, Integer.MIN_VALUE, Integer.MAX_VALUE};
    }

    static void end() {
        if (asked == askedAsSaid) {
            report("says(\"" + said + "\")", "nothing is looked at", "a check");
        }
        System.out.println(asked + " asked, " + wrong + " wrong");
        if (wrong != 0 || asked == 0) {
            System.exit(1);
        }
    }

    private static void report(String what, String got, String want) {
        wrong++;
        if (wrong <= 50) {
            String where = said.isEmpty() ? "" : "[" + said + "] ";
            System.out.println(where + what + ": answered " + got + ", due is " + want);
        }
    }
}
