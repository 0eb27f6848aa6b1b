/** What the tests of the project share: checks that print what is wrong, and count it. */
final class Check {
    private static int wrong = 0;

    interface Call {
        Object run();
    }

    interface Deed {
        void run();
    }

    private Check() {
    }

    /** Files with these numbers, and parties with the budget 128 and the same right to all of them in all hours. */
    static Dataroom roomOf(int parties, int right, int... numbers) {
        Dataroom room = new Dataroom();
        for (int number : numbers) {
            room.file(number);
        }
        for (int p = 0; p < parties; p++) {
            room.party(128);
            for (int f = 0; f < numbers.length; f++) {
                room.right(p, f, right, 0, 5000);
            }
        }
        return room;
    }

    static void due(String what, Object got, Object want) {
        if (!want.equals(got)) {
            wrong++;
            System.out.println(what + " answered " + got + ", due is " + want);
        }
    }

    /** The answer, or the exact class of what was thrown, with a word more if the machine or the library threw it. */
    static String outcome(Call call) {
        try {
            return String.valueOf(call.run());
        } catch (RuntimeException e) {
            String kind = e.getClass().getSimpleName();
            return isThrownByCode(e) ? kind : kind + " unasked";
        }
    }

    // The library's own list throws IndexOutOfBoundsException too: only its place tells the two apart.
    private static boolean isThrownByCode(RuntimeException e) {
        StackTraceElement[] trace = e.getStackTrace();
        return trace.length > 0 && trace[0].getClassName().matches("(Dataroom|PlainRoom)(\\$.*)?");
    }

    // That nothing has changed by it is compared in Run, whose rooms are made anew: here it would take calls beyond
    // the 512 for which an object stands.
    private static void dueThrow(String what, String want, Deed deed) {
        due(what, outcome(() -> {
            deed.run();
            return "nothing thrown";
        }), want);
    }

    static void dueIndex(String what, Deed deed) {
        dueThrow(what, "IndexOutOfBoundsException", deed);
    }

    static void dueArgument(String what, Deed deed) {
        dueThrow(what, "IllegalArgumentException", deed);
    }

    static void dueState(String what, Deed deed) {
        dueThrow(what, "IllegalStateException", deed);
    }

    /** Ends the test with exit code 1 if something was wrong. */
    static void end() {
        if (wrong > 0) {
            System.out.println(wrong + " wrong");
            System.exit(1);
        }
    }
}
