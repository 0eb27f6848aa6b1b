/** Promises 12 to 19: what is asked besides. */
public final class AskedBesidesTest {
    private static final int ALL = Dataroom.NONE;
    private static final int ASK = Dataroom.ASK;
    private static final int READ = Dataroom.READ;

    public static void main(String[] args) {
        promise12Answer();
        promises13And14Spent();
        promises13And14SpentOfManyFiles();
        promise15Finds();
        promise16Together();
        promise16TogetherRecalled();
        promise17RightTo();
        promise18IsSealed();
        promise19Count();
        Check.end();
    }

    private static String told(Dataroom room, int answer) {
        String told = "";
        for (int what = 0; what <= 5; what++) {
            told += room.answer(answer, what) + " ";
        }
        return told;
    }

    private static void promise12Answer() {
        Dataroom room = Check.roomOf(2, READ, 200, 7);
        room.ask(1, 3, ALL);
        room.pass(42);
        room.ask(0, 2, 2);
        room.seal(0, 5000);
        room.ask(0, 1, 2);
        Check.due("all bits", told(room, 0), "1 3 -1 207 0 0 ");
        Check.due("one bit", told(room, 1), "0 2 2 1 0 42 ");
        Check.dueIndex("a refused one has no number", () -> room.answer(2, 0));
        room.change(0, 0);
        Check.due("recalled, as it was given", told(room, 0), "1 3 -1 207 1 0 ");
        Check.due("not recalled", told(room, 1), "0 2 2 1 0 42 ");
        Check.dueIndex("answer(-1, 0)", () -> room.answer(-1, 0));
        Check.dueIndex("the index first", () -> room.answer(2, 6));
        Check.dueArgument("answer(0, 6)", () -> room.answer(0, 6));
        Check.dueArgument("answer(0, -1)", () -> room.answer(0, -1));
    }

    private static void dueSpent(String what, Dataroom room, int party, int want) {
        Check.due(what + ", spent", room.spent(party), want);
        Check.due(what + ", spent anew", room.spentAnew(party), want);
    }

    private static void promises13And14Spent() {
        Dataroom room = Check.roomOf(2, READ, 1, 2, 4, 8);
        dueSpent("nothing asked", room, 0, 0);
        room.ask(0, 3, 0);
        dueSpent("one set of one bit", room, 0, 1);
        room.ask(0, 3, 1);
        dueSpent("of another bit", room, 0, 2);
        room.ask(0, 6, 0);
        room.ask(0, 5, 0);
        dueSpent("a third that follows", room, 0, 3);
        room.ask(0, 15, ALL);
        dueSpent("all bits", room, 0, 11);
        room.ask(0, 5, ALL);
        dueSpent("all bits, one known", room, 0, 18);
        dueSpent("the other party", room, 1, 0);
        room.change(1, 2);
        dueSpent("recalled, but what the other answers tell", room, 0, 8);
        room.takeBack(0, 0);
        dueSpent("all recalled", room, 0, 0);
        room.seal(3, 0);
        room.ask(0, 8, 0);
        dueSpent("refused", room, 0, 0);
        Check.dueIndex("spent(2)", () -> room.spent(2));
        Check.dueIndex("spent(-1)", () -> room.spent(-1));
        Check.dueIndex("spentAnew(2)", () -> room.spentAnew(2));
        Check.dueIndex("spentAnew(-1)", () -> room.spentAnew(-1));
    }

    private static void promises13And14SpentOfManyFiles() {
        Dataroom room = Check.roomOf(1, READ, new int[16]);
        for (int f = 0; f < 16; f++) {
            room.ask(0, 1 << f, ALL);
            dueSpent("files to " + f, room, 0, 8 * f + 8);
        }
        Check.due("all is known", room.cost(0, 65535, ALL), 0);
        room.ask(0, 65535, ALL);
        dueSpent("all, and one more", room, 0, 128);
        room.change(15, 0);
        dueSpent("all but the last", room, 0, 120);
        dueFilesOneByOne();
    }

    /** Between the answers files come, so that each is known among more sets than the one before. */
    private static void dueFilesOneByOne() {
        Dataroom room = Check.roomOf(1, READ, 1);
        for (int f = 1; f < 16; f++) {
            room.file(f);
            room.right(0, f, READ, 0, 5000);
            room.ask(0, 1 << f | 1 << (f - 1), 4);
            dueSpent("a file more: " + f, room, 0, f);
        }
        Check.due("the ends follow", room.cost(0, 1 << 15 | 1, 4), 0);
    }

    private static void promise15Finds() {
        Dataroom room = Check.roomOf(2, READ, 1, 2, 4);
        Check.due("nothing asked", room.finds(0, 0), 0);
        room.ask(0, 1, 7);
        room.ask(0, 1, 0);
        Check.due("two bits, whatever the answers", room.finds(0, 0), 129);
        room.ask(0, 3, 0);
        Check.due("what follows", room.finds(0, 1), 1);
        Check.due("not the third", room.finds(0, 2), 0);
        room.ask(0, 4, ALL);
        Check.due("all bits", room.finds(0, 2), 255);
        Check.due("not the other party", room.finds(1, 2), 0);
        room.right(0, 2, ASK, 0, 0);
        Check.due("also without the right to READ", room.finds(0, 2), 255);
        room.change(0, 1);
        Check.due("recalled", room.finds(0, 0) + room.finds(0, 1), 0);
        Check.dueIndex("finds(2, 0)", () -> room.finds(2, 0));
        Check.dueIndex("finds(-1, 0)", () -> room.finds(-1, 0));
        Check.dueIndex("finds(0, 3)", () -> room.finds(0, 3));
        Check.dueIndex("finds(0, -1)", () -> room.finds(0, -1));
    }

    private static void promise16Together() {
        Dataroom room = Check.roomOf(3, ASK, 1, 2, 4);
        room.ask(0, 3, 0);
        room.ask(1, 7, 0);
        room.ask(2, 6, ALL);
        Check.due("one alone", room.together(1, 2), 0);
        Check.due("two", room.together(3, 2), 1);
        Check.due("two, of another file", room.together(3, 0), 0);
        Check.due("the last two", room.together(6, 0), 1);
        Check.due("the first and the last", room.together(5, 0), 0);
        Check.due("all", room.together(7, 1), 1);
        Check.due("no party", room.together(0, 2), 0);
        Check.due("none of them finds it alone", room.finds(0, 2) + room.finds(1, 2) + room.finds(2, 2), 0);
        Check.dueIndex("together(1, 3)", () -> room.together(1, 3));
        Check.dueIndex("together(1, -1)", () -> room.together(1, -1));
        Check.dueIndex("the index first", () -> room.together(8, 3));
        Check.dueArgument("together(8, 0)", () -> room.together(8, 0));
        Check.dueArgument("together(9, 0)", () -> room.together(9, 0));
        Check.dueArgument("together(-1, 0)", () -> room.together(-1, 0));
        Check.dueArgument("the sign alone", () -> room.together(Integer.MIN_VALUE, 0));
        Dataroom alone = new Dataroom();
        alone.file(3);
        Check.due("without parties", alone.together(0, 0), 0);
        Check.dueArgument("without parties, one", () -> alone.together(1, 0));
    }

    private static void promise16TogetherRecalled() {
        Dataroom room = Check.roomOf(2, ASK, 1, 2);
        room.file(9);
        room.right(0, 2, READ, 0, 5000);
        room.ask(0, 3, ALL);
        room.ask(0, 4, 5);
        room.right(1, 0, READ, 0, 5000);
        room.ask(1, 1, 3);
        Check.due("together", room.together(3, 1), 8);
        Check.due("one of them alone can, too", room.together(3, 2), 32);
        room.takeBack(1, 0);
        Check.due("recalled", room.together(3, 1), 0);
        Check.due("what is not", room.together(3, 2), 32);
    }

    private static void promise17RightTo() {
        Dataroom room = new Dataroom();
        room.file(1);
        room.file(1);
        room.party(1);
        room.party(1);
        room.right(1, 0, READ, 0, 1);
        room.right(0, 1, ASK, 1, 2);
        Check.due("READ", room.rightTo(1, 0), READ);
        Check.due("not yet", room.rightTo(0, 1), Dataroom.NOTHING);
        Check.due("none", room.rightTo(0, 0), Dataroom.NOTHING);
        room.pass(1);
        room.seal(1, 5000);
        Check.due("READ in its last hour", room.rightTo(1, 0), READ);
        Check.due("ASK in its first hour, sealed or not", room.rightTo(0, 1), ASK);
        room.pass(1);
        Check.due("over", room.rightTo(1, 0), Dataroom.NOTHING);
        Check.dueIndex("rightTo(2, 0)", () -> room.rightTo(2, 0));
        Check.dueIndex("rightTo(-1, 0)", () -> room.rightTo(-1, 0));
        Check.dueIndex("rightTo(0, 2)", () -> room.rightTo(0, 2));
        Check.dueIndex("rightTo(0, -1)", () -> room.rightTo(0, -1));
    }

    private static void promise18IsSealed() {
        Dataroom room = Check.roomOf(0, READ, 1, 2);
        Check.due("never sealed", room.isSealed(0), false);
        room.seal(1, 2);
        Check.due("sealed", room.isSealed(1), true);
        Check.due("another one", room.isSealed(0), false);
        room.pass(2);
        Check.due("in the last hour", room.isSealed(1), true);
        room.pass(1);
        Check.due("behind it", room.isSealed(1), false);
        Check.dueIndex("isSealed(2)", () -> room.isSealed(2));
        Check.dueIndex("isSealed(-1)", () -> room.isSealed(-1));
    }

    private static String counts(Dataroom room, int party) {
        String counts = "";
        for (int what = 0; what <= 5; what++) {
            counts += room.count(party, what);
        }
        return counts;
    }

    private static void promise19Count() {
        Dataroom room = Check.roomOf(2, ASK, 1, 2);
        room.right(0, 1, READ, 0, 1);
        Check.due("nothing asked", counts(room, 0), "000000");
        room.ask(0, 2, ALL);
        room.ask(0, 2, 0);
        room.ask(0, 3, 1);
        Check.due("one tells", counts(room, 0), "200102");
        room.seal(0, 1);
        room.ask(0, 1, 1);
        room.ask(0, 3, 1);
        room.ask(0, 1, 0);
        room.pass(2);
        for (int i = 0; i < 5; i++) {
            room.ask(0, 2, 0);
        }
        room.right(0, 1, READ, 0, 5000);
        room.budget(0, 7);
        for (int i = 0; i < 4; i++) {
            room.ask(0, 2, 0);
        }
        Check.due("each by its refusal", counts(room, 0), "253142");
        Check.due("the other party", counts(room, 1), "000000");
        room.takeBack(0, 1);
        Check.due("recalled ones were answered all the same", counts(room, 0), "253140");
        Check.dueIndex("count(2, 0)", () -> room.count(2, 0));
        Check.dueIndex("count(-1, 0)", () -> room.count(-1, 0));
        Check.dueIndex("the index first", () -> room.count(2, 6));
        Check.dueArgument("count(0, 6)", () -> room.count(0, 6));
        Check.dueArgument("count(0, -1)", () -> room.count(0, -1));
    }
}
