import java.util.function.IntConsumer;

/** What the tests of the project share: checks that print what is wrong, and count it. */
final class Check {
    private static int wrong = 0;

    interface Call {
        Object run();
    }

    interface Deed {
        void run();
    }

    private Check() {
    }

    /** Files with these numbers, and parties with the budget 128 and the same right to all of them in all hours. */
    static Dataroom roomOf(int parties, int right, int... numbers) {
        Dataroom room = new Dataroom();
        for (int number : numbers) {
            room.file(number);
        }
        for (int p = 0; p < parties; p++) {
            room.party(128);
            for (int f = 0; f < numbers.length; f++) {
                room.right(p, f, right, 0, 5000);
            }
        }
        return room;
    }

    static void due(String what, Object got, Object want) {
        if (!want.equals(got)) {
            wrong++;
            System.out.println(what + " answered " + got + ", due is " + want);
        }
    }

    /** The answer, or the exact class of what was thrown, with a word more if the machine or the library threw it. */
    static String outcome(Call call) {
        try {
            return String.valueOf(call.run());
        } catch (RuntimeException e) {
            String kind = e.getClass().getSimpleName();
            return isThrownByCode(e) ? kind : kind + " unasked";
        }
    }

    // The library's own list throws IndexOutOfBoundsException too: only its place tells the two apart.
    private static boolean isThrownByCode(RuntimeException e) {
        StackTraceElement[] trace = e.getStackTrace();
        return trace.length > 0 && trace[0].getClassName().matches("(Dataroom|PlainRoom)(\\$.*)?");
    }

    /** The call throws just this, and nothing that can be asked has changed by it. */
    private static void dueThrow(String what, Dataroom room, String want, Deed deed) {
        String before = everything(room);
        String got = outcome(() -> {
            deed.run();
            return "nothing thrown";
        });
        due(what, got, want);
        due(what + ": what can be asked behind it", everything(room), before);
    }

    static void dueIndex(String what, Dataroom room, Deed deed) {
        dueThrow(what, room, "IndexOutOfBoundsException", deed);
    }

    static void dueArgument(String what, Dataroom room, Deed deed) {
        dueThrow(what, room, "IllegalArgumentException", deed);
    }

    static void dueState(String what, Dataroom room, Deed deed) {
        dueThrow(what, room, "IllegalStateException", deed);
    }

    /** All that a room tells; the budgets, that only their setting tells, are set back. */
    static String everything(Dataroom room) {
        StringBuilder told = new StringBuilder();
        int files = howMany(room::isSealed);
        int parties = howMany(room::spent);
        int answers = howMany(a -> room.answer(a, 0));
        told.append(files).append(" files, ").append(parties).append(" parties");
        for (int p = 0; p < parties; p++) {
            tellParty(room, p, files, told);
        }
        for (int f = 0; f < files; f++) {
            told.append("\nfile ").append(f).append(room.isSealed(f) ? " sealed" : " open");
            told.append(" together ").append(room.together((1 << parties) - 1, f));
        }
        for (int a = 0; a < answers; a++) {
            told.append("\nanswer ").append(a);
            for (int what = 0; what <= 5; what++) {
                told.append(' ').append(room.answer(a, what));
            }
        }
        return told.toString();
    }

    private static void tellParty(Dataroom room, int p, int files, StringBuilder told) {
        int budget = room.budget(p, 0);
        room.budget(p, budget);
        told.append("\nparty ").append(p).append(" budget ").append(budget);
        told.append(" spent ").append(room.spent(p)).append(' ').append(room.spentAnew(p)).append(" counts");
        for (int what = 0; what <= 5; what++) {
            told.append(' ').append(room.count(p, what));
        }
        for (int f = 0; f < files; f++) {
            told.append(" [").append(room.rightTo(p, f)).append(' ').append(room.finds(p, f)).append(']');
        }
    }

    /** How many numbers from 0 the call takes. */
    private static int howMany(IntConsumer call) {
        int many = 0;
        try {
            while (many < 1000) {
                call.accept(many);
                many++;
            }
        } catch (IndexOutOfBoundsException e) {
            return many;
        }
        return many;
    }

    /** Ends the test with exit code 1 if something was wrong. */
    static void end() {
        if (wrong > 0) {
            System.out.println(wrong + " wrong");
            System.exit(1);
        }
    }
}
