/** Calls that bring to light what a room holds, also what no single call tells; each kind needs a room of its own. */
final class Probe {
    static final int KINDS = 15;

    private static final int FIRST_OF_ANSWER = 9;

    private final Dataroom room;
    private final StringBuilder told = new StringBuilder();
    private final int files;
    private final int parties;
    private final int answers;
    private int left;

    /** Of a room with so many files, parties and answers, for so many calls as are left. */
    Probe(Dataroom room, int files, int parties, int answers, int left) {
        this.room = room;
        this.files = files;
        this.parties = parties;
        this.answers = answers;
        this.left = left;
    }

    String tell(int kind) {
        switch (kind) {
            case 0 -> tellParties();
            case 1 -> tellFiles();
            case 2 -> tellHours();
            case 3 -> tellLastHours();
            case 4 -> tellNumbers();
            case 5 -> tellTakenBack();
            case 6 -> tellChanged();
            case 7 -> tellRoomLeft();
            case 8 -> tellCosts();
            default -> tellAnswers(kind - FIRST_OF_ANSWER);
        }
        return told.toString();
    }

    private String ask(String name, Integer... args) {
        if (left <= 0) {
            return "";
        }
        left--;
        Run.Row row = new Run.Row(name, args, null);
        String got = Run.outcome(room, row);
        told.append(row.call()).append(' ').append(got).append("; ");
        return got;
    }

    private void tellParties() {
        for (int p = 0; p <= parties; p++) {
            ask("spent", p);
            ask("spentAnew", p);
            ask("budget", p, 0);
            for (int what = 0; what <= 5; what++) {
                ask("count", p, what);
            }
        }
    }

    private void tellFiles() {
        for (int f = 0; f <= files; f++) {
            ask("together", (1 << parties) - 1, f);
            for (int p = 0; p < parties; p++) {
                ask("finds", p, f);
            }
        }
        tellNow();
    }

    private void tellNow() {
        for (int f = 0; f < files; f++) {
            ask("isSealed", f);
            for (int p = 0; p < parties; p++) {
                ask("rightTo", p, f);
            }
        }
    }

    private void tellHours() {
        while (left > 0) {
            tellNow();
            ask("pass", 1);
        }
    }

    private void tellLastHours() {
        for (int step : new int[] {500, 50, 5, 1}) {
            while (left > 0 && !ask("pass", step).startsWith("Illegal")) {
                tellNow();
            }
        }
    }

    /** Opened and made readable, each file tells its number, and each answer its hour. */
    private void tellNumbers() {
        if (parties == 0) {
            ask("party", 128);
        }
        ask("pass", 1);
        ask("budget", 0, 128);
        for (int f = 0; f < files; f++) {
            ask("right", 0, f, Dataroom.READ, 0, 5000);
        }
        for (int f = 0; f < files; f++) {
            ask("seal", f, 0);
            ask("ask", 0, 1 << f, Dataroom.NONE);
            ask("answer", answers + f, 5);
        }
    }

    private void tellTakenBack() {
        for (int p = 0; p < parties; p++) {
            for (int f = 0; f < files; f++) {
                ask("takeBack", p, f);
            }
        }
    }

    private void tellChanged() {
        for (int f = 0; f < files; f++) {
            ask("change", f, 0);
        }
    }

    private void tellRoomLeft() {
        for (int i = 0; i <= 16; i++) {
            ask("file", 0);
        }
        for (int i = 0; i <= 6; i++) {
            ask("party", 0);
        }
    }

    private void tellCosts() {
        for (int set = 1; set < 1 << files && left > 0; set++) {
            for (int p = 0; p < parties; p++) {
                ask("cost", p, set, Dataroom.NONE);
            }
        }
    }

    private void tellAnswers(int what) {
        for (int a = 0; a <= answers; a++) {
            ask("answer", a, what);
        }
    }
}
