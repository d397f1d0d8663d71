/** Counts the calls whose answer is not the one that is due; every test ends with done(). */
final class Check {
    private static int cases = 0;
    private static int checked = 0;
    private static int wrong = 0;
    private static String running = "";

    private Check() {
    }

    /** A call that answers a number. */
    interface Call {
        long answer();
    }

    /** A call that answers nothing. */
    interface Act {
        void act();
    }

    /** Makes an object in the state that a call is looked at in. */
    interface Maker {
        FewBits make();
    }

    /** A call of an object. */
    interface Use {
        void on(FewBits bits);
    }

    /** One case by itself, told by its name if an answer in it is wrong. */
    static void test(String name, Act act) {
        cases++;
        running = name + ": ";
        int before = checked;
        try {
            act.act();
        } catch (RuntimeException e) {
            tell("the case", "throws " + e, "an answer");
        }
        if (checked == before) {
            tell("the case", "looks at nothing", "an answer");
        }
        running = "";
    }

    static void due(String what, long got, long want) {
        checked++;
        if (got != want) {
            tell(what, Long.toString(got), Long.toString(want));
        }
    }

    static void due(String what, boolean got, boolean want) {
        checked++;
        if (got != want) {
            tell(what, Boolean.toString(got), Boolean.toString(want));
        }
    }

    static void dueText(String what, String got, String want) {
        checked++;
        if (!got.equals(want)) {
            tell(what, got, want);
        }
    }

    static void dueThrow(String what, Class<? extends RuntimeException> want, Act act) {
        dueText(what, outcome(() -> {
            act.act();
            return 0;
        }), "throws." + want.getSimpleName());
    }

    /** A call that throws and changes nothing: a second object that was never called so is as this one. */
    static void refused(String what, Class<? extends RuntimeException> want, Maker maker, Use use) {
        FewBits bits = maker.make();
        dueThrow(what, want, () -> use.on(bits));
        dueText(what + ", the state behind it", state(bits), state(maker.make()));
    }

    /** The answer of a call as a text, or the exception that it throws. */
    static String outcome(Call call) {
        try {
            return Long.toString(call.answer());
        } catch (RuntimeException e) {
            return "throws." + e.getClass().getSimpleName();
        }
    }

    /** All cells of a filter, as many as there are. */
    static String cells(FewBits bits, int f) {
        StringBuilder text = new StringBuilder();
        for (int i = 0; i < 2000; i++) {
            int at = i;
            String cell = outcome(() -> bits.cell(f, at));
            if (cell.startsWith("throws.")) {
                return text.append(cell).toString();
            }
            text.append(cell).append(' ');
        }
        return text.append("no end").toString();
    }

    static void dueCells(String what, FewBits bits, int f, int... want) {
        StringBuilder text = new StringBuilder();
        for (int cell : want) {
            text.append(cell).append(' ');
        }
        dueText(what, cells(bits, f), text.append("throws.IndexOutOfBoundsException").toString());
    }

    /** What can be seen of all four filters. An object answers 512 calls, so they have to be small. */
    static String state(FewBits bits) {
        StringBuilder text = new StringBuilder();
        for (int f = 0; f < 4; f++) {
            int filter = f;
            text.append("filter ").append(f).append(": ");
            for (int what = 0; what < 6; what++) {
                int which = what;
                text.append(outcome(() -> bits.count(filter, which))).append(' ');
            }
            text.append("cells ").append(cells(bits, f)).append("; ");
        }
        return text.toString();
    }

    static void done() {
        String counted = cases == 0 ? "" : cases + " cases, ";
        System.out.println(counted + checked + " answers looked at, " + wrong + " of them wrong");
        if (wrong != 0 || checked == 0) {
            System.exit(1);
        }
    }

    private static void tell(String what, String got, String want) {
        wrong++;
        System.out.println(running + what + ": answered " + got + ", due is " + want);
    }
}
