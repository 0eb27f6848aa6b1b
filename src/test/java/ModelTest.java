/** Runs of up to 512 calls each, drawn by a fixed sequence, on the class and on PlainRoom: both answer alike. */
public final class ModelTest {
    private static final int RUNS = 1000;
    private static final int CALLS = 512;

    private final Dataroom room = new Dataroom();
    private final PlainRoom plain = new PlainRoom();
    private final int run;
    private final int mostFiles;
    private final int mostParties;
    private final int wrongOf100;
    private final int readOf100;
    private final int allBitsOf100;
    private final int budgetOf;
    private final int recallsOf100;
    private final int questionsOf100;
    private long seed;
    private int files;
    private int parties;
    private int answers;
    private int calls;

    private ModelTest(int run) {
        this.run = run;
        seed = 7919L * run + 17;
        // Few files and parties most often: PlainRoom walks all known sets, and what is rare is met sooner.
        mostFiles = run % 20 == 0 ? 16 : 1 + draw(7);
        mostParties = run % 20 == 0 ? 2 : 1 + draw(6);
        wrongOf100 = draw(3) * 4;
        readOf100 = draw(101);
        allBitsOf100 = run % 20 == 0 ? 5 : draw(40);
        budgetOf = 1 + draw(128);
        recallsOf100 = draw(4);
        questionsOf100 = 30 + draw(50);
    }

    public static void main(String[] args) {
        int[] seen = new int[8];
        for (int run = 0; run < RUNS; run++) {
            new ModelTest(run).go(seen);
        }
        for (int kind = 0; kind < seen.length; kind++) {
            Check.due("of the kind " + kind + " " + seen[kind] + " were met: enough", seen[kind] >= 100, true);
        }
        Check.end();
    }

    private int draw(int below) {
        seed = seed * 6364136223846793005L + 1442695040888963407L;
        return (int) ((seed >>> 33) % below);
    }

    private boolean chance(int of100) {
        return draw(100) < of100;
    }

    /** A number from least to most, or sometimes one beside that. */
    private int number(int least, int most) {
        if (chance(wrongOf100)) {
            int[] beside = {least - 1, most + 1, Integer.MIN_VALUE, Integer.MAX_VALUE, -1};
            return beside[draw(beside.length)];
        }
        return most < least ? least : least + draw(most - least + 1);
    }

    private int aFile() {
        return number(0, files - 1);
    }

    private int aParty() {
        return number(0, parties - 1);
    }

    private int someFiles(int p) {
        if (chance(30)) {
            return chance(wrongOf100) ? 0 : 1 << draw(Math.max(1, files));
        }
        int set = number(1, (1 << files) - 1);
        int held = chance(70) ? set & rightsOf(p) : 0;
        return held == 0 ? set : held;
    }

    private int rightsOf(int p) {
        int held = 0;
        for (int f = 0; f < files && p >= 0 && p < parties; f++) {
            held |= plain.rightTo(p, f) == Dataroom.NOTHING ? 0 : 1 << f;
        }
        return held;
    }

    private int aBit() {
        return chance(allBitsOf100) ? Dataroom.NONE : number(0, 7);
    }

    private void go(int[] seen) {
        while (calls < CALLS - 1) {
            if (calls >= 40 && chance(questionsOf100)) {
                tally(seen, question());
            } else if (calls < 40) {
                tally(seen, opening());
            } else {
                tally(seen, chance(50) ? changes(draw(20)) : asked(draw(8)));
            }
        }
    }

    private String opening() {
        int kind = draw(5);
        return kind == 0 ? newFile() : kind == 1 ? newParty() : newRight();
    }

    private static void tally(int[] seen, String outcome) {
        switch (outcome) {
            case "-1", "-2", "-3", "-4":
                seen[-Integer.parseInt(outcome)]++;
                break;
            case "IllegalStateException":
                seen[5]++;
                break;
            case "IllegalArgumentException":
                seen[6]++;
                break;
            case "IndexOutOfBoundsException":
                seen[7]++;
                break;
            default:
                seen[0]++;
        }
    }

    private String same(String call, Check.Call one, Check.Call other) {
        calls++;
        String got = Check.outcome(one);
        Check.due("run " + run + ": " + call, got, Check.outcome(other));
        return got;
    }

    private String question() {
        int p = aParty();
        int set = someFiles(p);
        int bit = aBit();
        String args = "(" + p + ", " + set + ", " + bit + ")";
        same("cost" + args, () -> room.cost(p, set, bit), () -> plain.cost(p, set, bit));
        String outcome = same("ask" + args, () -> room.ask(p, set, bit), () -> plain.ask(p, set, bit));
        if (outcome.length() < 4 && !outcome.startsWith("-")) {
            answers++;
        }
        return outcome;
    }

    private String changes(int kind) {
        switch (kind) {
            case 0:
                return newFile();
            case 1:
                return newParty();
            case 2, 3, 4, 5, 6:
                return newRight();
            case 7, 8, 9, 10:
                return chance(5 * recallsOf100) ? takeBack() : newRight();
            case 11, 12:
                return chance(10 * recallsOf100) ? change() : newRight();
            case 13, 14:
                return seal();
            case 15, 16:
                return newBudget();
            default:
                return pass();
        }
    }

    private String newFile() {
        int number = files < mostFiles || chance(10) ? number(0, 255) : 256;
        if (number >= 0 && number <= 255 && files < 16) {
            files++;
        }
        return same("file(" + number + ")", () -> room.file(number), () -> plain.file(number));
    }

    private String newParty() {
        int budget = parties < mostParties || chance(10) ? number(0, budgetOf) : -1;
        if (budget >= 0 && budget <= 128 && parties < 6) {
            parties++;
        }
        return same("party(" + budget + ")", () -> room.party(budget), () -> plain.party(budget));
    }

    private String newRight() {
        int p = aParty();
        int f = aFile();
        int right = chance(wrongOf100) ? number(1, 2) : chance(readOf100) ? 2 : 1;
        int from = chance(60) ? 0 : number(0, 40);
        int to = chance(80) ? 5000 : number(Math.max(0, from), Math.max(0, from) + 40);
        String call = "right(" + p + ", " + f + ", " + right + ", " + from + ", " + to + ")";
        return same(call, () -> {
            room.right(p, f, right, from, to);
            return "void";
        }, () -> {
            plain.right(p, f, right, from, to);
            return "void";
        });
    }

    private String takeBack() {
        int p = aParty();
        int f = aFile();
        return same("takeBack(" + p + ", " + f + ")", () -> room.takeBack(p, f), () -> plain.takeBack(p, f));
    }

    private String change() {
        int f = aFile();
        int number = number(0, 255);
        return same("change(" + f + ", " + number + ")", () -> room.change(f, number), () -> plain.change(f, number));
    }

    private String pass() {
        int hours = chance(3) ? number(1, 500) : number(1, 3);
        return same("pass(" + hours + ")", () -> room.pass(hours), () -> plain.pass(hours));
    }

    private String seal() {
        int f = aFile();
        int till = chance(2) ? number(0, 5000) : number(0, 60);
        return same("seal(" + f + ", " + till + ")", () -> {
            room.seal(f, till);
            return "void";
        }, () -> {
            plain.seal(f, till);
            return "void";
        });
    }

    private String newBudget() {
        int p = aParty();
        int budget = chance(50) ? number(0, 128) : number(0, budgetOf);
        return same("budget(" + p + ", " + budget + ")", () -> room.budget(p, budget), () -> plain.budget(p, budget));
    }

    private String asked(int kind) {
        int p = aParty();
        int f = aFile();
        switch (kind) {
            case 0:
                return same("spent(" + p + ")", () -> room.spent(p), () -> plain.spent(p));
            case 1:
                return same("spentAnew(" + p + ")", () -> room.spentAnew(p), () -> plain.spent(p));
            case 2:
                return same("finds(" + p + ", " + f + ")", () -> room.finds(p, f), () -> plain.finds(p, f));
            case 3:
                return together(f);
            case 4:
                return answer();
            case 5:
                return same("isSealed(" + f + ")", () -> room.isSealed(f), () -> plain.isSealed(f));
            case 6:
                return count(p);
            default:
                return same("rightTo(" + p + ", " + f + ")", () -> room.rightTo(p, f), () -> plain.rightTo(p, f));
        }
    }

    private String together(int f) {
        int set = number(0, (1 << parties) - 1);
        return same("together(" + set + ", " + f + ")", () -> room.together(set, f), () -> plain.together(set, f));
    }

    private String answer() {
        int a = number(0, answers - 1);
        int what = number(0, 5);
        return same("answer(" + a + ", " + what + ")", () -> room.answer(a, what), () -> plain.answer(a, what));
    }

    private String count(int p) {
        int what = number(0, 5);
        return same("count(" + p + ", " + what + ")", () -> room.count(p, what), () -> plain.count(p, what));
    }
}
