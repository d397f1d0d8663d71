/** Counts the calls whose answer is not the one that is due; every test ends with done(). */
final class Check {
    private static int checked = 0;
    private static int wrong = 0;

    private Check() {
    }

    /** A call that answers a number. */
    interface Call {
        long answer();
    }

    /** A call that answers nothing. */
    interface Act {
        void act();
    }

    static void due(String what, long got, long want) {
        checked++;
        if (got != want) {
            tell(what, Long.toString(got), Long.toString(want));
        }
    }

    static void due(String what, boolean got, boolean want) {
        checked++;
        if (got != want) {
            tell(what, Boolean.toString(got), Boolean.toString(want));
        }
    }

    static void dueText(String what, String got, String want) {
        checked++;
        if (!got.equals(want)) {
            tell(what, got, want);
        }
    }

    static void dueThrow(String what, Class<? extends RuntimeException> want, Act act) {
        dueText(what, outcome(() -> {
            act.act();
            return 0;
        }), "throws." + want.getSimpleName());
    }

    /** The answer of a call as a text, or the exception that it throws. */
    static String outcome(Call call) {
        try {
            return Long.toString(call.answer());
        } catch (RuntimeException e) {
            return "throws." + e.getClass().getSimpleName();
        }
    }

    /** All cells of a filter, as many as there are. */
    static String cells(FewBits bits, int f) {
        StringBuilder text = new StringBuilder();
        for (int i = 0; i < 2000; i++) {
            int at = i;
            String cell = outcome(() -> bits.cell(f, at));
            if (cell.startsWith("throws.")) {
                return text.append(cell).toString();
            }
            text.append(cell).append(' ');
        }
        return text.append("no end").toString();
    }

    static void done() {
        System.out.println(checked + " answers looked at, " + wrong + " of them wrong");
        if (wrong != 0 || checked == 0) {
            System.exit(1);
        }
    }

    private static void tell(String what, String got, String want) {
        wrong++;
        System.out.println(what + ": answered " + got + ", due is " + want);
    }
}
