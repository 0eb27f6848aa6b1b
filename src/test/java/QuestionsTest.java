/** Promises 10 and 11: what is asked, what it costs, and how it is refused. */
public final class QuestionsTest {
    private static final int ALL = Dataroom.NONE;
    private static final int ASK = Dataroom.ASK;
    private static final int READ = Dataroom.READ;
    private static final int NO_RIGHT = Dataroom.NO_RIGHT;
    private static final int SEALED = Dataroom.SEALED;
    private static final int TELLS = Dataroom.TELLS;
    private static final int DEAR = Dataroom.DEAR;

    public static void main(String[] args) {
        promise10Answers();
        promise10Throws();
        promise10MostAnswers();
        promise10NoRight();
        promise10Sealed();
        promise10Tells();
        promise10TellsOfAnotherFile();
        promise10Dear();
        promise10OrderOfRefusals();
        promise10RecalledIsNotKnown();
        promise11Cost();
        promise11CostOfRefused();
        promise11Throws();
        Check.end();
    }

    private static void promise10Answers() {
        Dataroom room = Check.roomOf(1, READ, 0b1100, 0b1010, 0b1001, 255);
        Check.due("one file, all bits", room.ask(0, 1, ALL), 0b1100);
        Check.due("two files, all bits", room.ask(0, 3, ALL), 0b0110);
        Check.due("three files, all bits", room.ask(0, 7, ALL), 0b1111);
        Check.due("four files, all bits", room.ask(0, 15, ALL), 0b11110000);
        Check.due("three files, the bit 0", room.ask(0, 7, 0), 1);
        Check.due("two files, the bit 3", room.ask(0, 3, 3), 0);
        Check.due("one file, the bit 7", room.ask(0, 8, 7), 1);
        Check.due("one file, the bit 1", room.ask(0, 1, 1), 0);
        Check.due("those that cost nothing are answers too", room.count(0, 0), 8);
    }

    private static void promise10Throws() {
        Dataroom room = Check.roomOf(1, READ, 1, 2);
        room.ask(0, 3, 0);
        Check.dueIndex("ask of the party 1", () -> room.ask(1, 1, 0));
        Check.dueIndex("ask of the party -1", () -> room.ask(-1, 1, 0));
        Check.dueIndex("the index first", () -> room.ask(1, 0, 8));
        Check.dueArgument("no files", () -> room.ask(0, 0, 0));
        Check.dueArgument("a file that there is not", () -> room.ask(0, 4, 0));
        Check.dueArgument("one beside two", () -> room.ask(0, 7, 0));
        Check.dueArgument("a file far off", () -> room.ask(0, 1 << 30 | 1, 0));
        Check.dueArgument("a set below 0", () -> room.ask(0, -1, 0));
        Check.dueArgument("the sign alone", () -> room.ask(0, Integer.MIN_VALUE, 0));
        Check.dueArgument("the bit 8", () -> room.ask(0, 1, 8));
        Check.dueArgument("the bit -2", () -> room.ask(0, 1, -2));
        Dataroom empty = new Dataroom();
        empty.party(128);
        Check.dueArgument("without files", () -> empty.ask(0, 1, 0));
        Check.dueArgument("without files, none", () -> empty.ask(0, 0, 0));
    }

    private static void promise10MostAnswers() {
        Dataroom room = Check.roomOf(1, READ, 1);
        room.party(0);
        for (int a = 0; a < 149; a++) {
            room.ask(0, 1, 0);
        }
        Check.due("a refused one does not count", room.ask(1, 1, 0), NO_RIGHT);
        room.change(0, 0);
        Check.due("the last answer", room.ask(0, 1, 0), 0);
        Check.due("its number", room.answer(149, 4), 0);
        Check.dueState("one more", () -> room.ask(0, 1, 0));
        Check.dueState("one that would be refused", () -> room.ask(1, 1, 0));
        Check.dueArgument("one more, out of range", () -> room.ask(0, 2, 0));
        Check.dueIndex("one more, of no party", () -> room.ask(2, 1, 0));
        room.change(0, 1);
        Check.dueState("also when all are recalled", () -> room.ask(0, 1, 0));
        Check.due("the cost can be asked still", room.cost(0, 1, ALL), 8);
    }

    private static void promise10NoRight() {
        Dataroom room = Check.roomOf(1, READ, 1, 2);
        room.file(4);
        Check.due("none to one file of the set", room.ask(0, 7, 0), NO_RIGHT);
        room.right(0, 2, READ, 1, 1);
        Check.due("not yet", room.ask(0, 4, ALL), NO_RIGHT);
        room.pass(1);
        Check.due("now", room.ask(0, 4, ALL), 4);
        room.pass(1);
        Check.due("no longer, though it is known", room.ask(0, 4, ALL), NO_RIGHT);
        Check.due("none for a file that is not asked", room.ask(0, 3, ALL), 3);
        Check.due("counted", room.count(0, 1), 3);
    }

    private static void promise10Sealed() {
        Dataroom room = Check.roomOf(1, READ, 1, 2, 4);
        room.seal(1, 3);
        Check.due("one file of the set", room.ask(0, 3, 0), SEALED);
        Check.due("a set without it", room.ask(0, 5, 0), 1);
        room.pass(3);
        Check.due("the hour itself", room.ask(0, 2, 0), SEALED);
        room.pass(1);
        Check.due("behind it", room.ask(0, 2, 1), 1);
        Check.due("counted", room.count(0, 2), 2);
    }

    private static void promise10Tells() {
        Dataroom room = Check.roomOf(1, ASK, 1, 2, 4);
        Check.due("one file, to ASK alone", room.ask(0, 1, 0), TELLS);
        Check.due("one file, all bits", room.ask(0, 1, ALL), TELLS);
        Check.due("two files tell of none", room.ask(0, 3, 0), 1);
        Check.due("three files leave the third", room.ask(0, 7, 0), TELLS);
        Check.due("all bits, with one that tells", room.ask(0, 7, ALL), TELLS);
        Check.due("of another bit", room.ask(0, 7, 1), 1);
        room.right(0, 0, READ, 1, 1);
        Check.due("READ in another hour is no right", room.ask(0, 1, 2), NO_RIGHT);
        room.pass(1);
        Check.due("READ now", room.ask(0, 1, 2), 0);
        room.pass(1);
        room.right(0, 0, ASK, 0, 5000);
        Check.due("what it can find already", room.ask(0, 1, 2), 0);
        Check.due("counted", room.count(0, 3), 4);
    }

    private static void promise10TellsOfAnotherFile() {
        Dataroom room = Check.roomOf(1, ASK, 1, 2, 4, 8);
        room.right(0, 0, READ, 0, 5000);
        Check.due("two files", room.ask(0, 3, 3), 0);
        Check.due("to READ the one leaves the other", room.ask(0, 1, 3), TELLS);
        Check.due("another bit tells of none besides", room.ask(0, 1, 2), 0);
        room.ask(0, 14, 3);
        room.ask(0, 6, 3);
        Check.due("the fourth comes of two by itself", room.count(0, 3), 2);
        room.right(0, 1, READ, 0, 5000);
        Check.due("a chain of others", room.ask(0, 12, 3), 1);
        Check.due("to READ the two, but the third follows", room.ask(0, 6, 3), TELLS);
        room.takeBack(0, 2);
        Check.due("of the set or not, without a right", room.ask(0, 1, 3), 0);
        promise10TellsByHours();
    }

    private static void promise10TellsByHours() {
        Dataroom room = Check.roomOf(1, READ, 1, 2);
        room.ask(0, 3, ALL);
        room.right(0, 1, READ, 2, 2);
        room.pass(1);
        Check.due("READ the other one later", room.ask(0, 1, 0), TELLS);
        room.pass(1);
        Check.due("READ the other one now", room.ask(0, 1, 0), 1);
        room.pass(1);
        Check.due("READ the other one before", room.ask(0, 1, 1), TELLS);
        Check.due("found before", room.ask(0, 1, 0), 1);
        room.takeBack(0, 1);
        room.seal(1, 5000);
        Check.due("recalled, it does not follow", room.ask(0, 1, 1), 0);
    }

    private static void promise10Dear() {
        Dataroom room = Check.roomOf(1, READ, 1, 2, 4);
        room.budget(0, 8);
        Check.due("one bit", room.ask(0, 1, 0), 1);
        Check.due("eight more", room.ask(0, 2, ALL), DEAR);
        Check.due("seven more", room.ask(0, 1, ALL), 1);
        Check.due("one above the budget", room.ask(0, 2, 0), DEAR);
        Check.due("costless at the budget", room.ask(0, 1, ALL), 1);
        room.budget(0, 7);
        Check.due("costless above the budget", room.ask(0, 1, 0), DEAR);
        room.takeBack(0, 0);
        Check.due("recalled is not spent", room.ask(0, 2, 1), 1);
        Check.due("counted", room.count(0, 4), 3);
    }

    private static void promise10OrderOfRefusals() {
        Dataroom room = Check.roomOf(1, ASK, 1, 2);
        room.budget(0, 0);
        room.seal(0, 0);
        room.right(0, 0, ASK, 1, 5000);
        Check.due("no right, sealed, tells and dear", room.ask(0, 1, 0), NO_RIGHT);
        Check.due("no right to the one, sealed the other", room.ask(0, 3, 0), NO_RIGHT);
        room.right(0, 0, ASK, 0, 5000);
        Check.due("sealed, tells and dear", room.ask(0, 1, 0), SEALED);
        Check.due("sealed and dear", room.ask(0, 3, 0), SEALED);
        room.pass(1);
        Check.due("tells and dear", room.ask(0, 1, 0), TELLS);
        Check.due("dear", room.ask(0, 3, 0), DEAR);
        Check.due("what is refused is not learned", room.spent(0), 0);
        Check.due("nor told", Check.outcome(() -> room.answer(0, 0)), "IndexOutOfBoundsException");
        String counts = "";
        for (int what = 0; what <= 5; what++) {
            counts += room.count(0, what);
        }
        Check.due("counts", counts, "022110");
    }

    private static void promise10RecalledIsNotKnown() {
        Dataroom room = Check.roomOf(1, ASK, 1, 2, 4);
        room.ask(0, 3, 0);
        Check.due("with the first it tells", room.ask(0, 7, 0), TELLS);
        room.change(1, 2);
        Check.due("the first recalled", room.ask(0, 7, 0), 1);
        Check.due("and again the other way round", room.ask(0, 3, 0), TELLS);
        room.ask(0, 7, 0);
        room.takeBack(0, 0);
        Check.due("both are recalled", room.spent(0), 0);
        room.right(0, 0, ASK, 0, 5000);
        Check.due("asked anew", room.ask(0, 3, 0), 1);
        Check.due("the right anew recalls nothing", room.spent(0), 1);
    }

    private static void promise11Cost() {
        Dataroom room = Check.roomOf(1, READ, 1, 2, 4, 8);
        Check.due("one bit", room.cost(0, 1, 0), 1);
        Check.due("all bits", room.cost(0, 15, ALL), 8);
        room.ask(0, 3, 0);
        Check.due("known", room.cost(0, 3, 0), 0);
        Check.due("known of one bit", room.cost(0, 3, ALL), 7);
        Check.due("of another bit", room.cost(0, 3, 1), 1);
        room.ask(0, 6, 0);
        Check.due("what just one has of two", room.cost(0, 5, 0), 0);
        Check.due("what one has and both have", room.cost(0, 7, 0), 1);
        Check.due("what neither has", room.cost(0, 8, 0), 1);
        room.ask(0, 12, 0);
        Check.due("of three", room.cost(0, 9, 0), 0);
        Check.due("all four, of two", room.cost(0, 15, 0), 0);
        Check.due("nothing is asked by that", room.count(0, 0) + 10 * room.spent(0), 33);
        room.change(2, 4);
        Check.due("what is recalled costs anew", room.cost(0, 5, 0), 1);
        Check.due("what is not recalled does not", room.cost(0, 3, 0), 0);
    }

    private static void promise11CostOfRefused() {
        Dataroom room = new Dataroom();
        room.file(1);
        room.party(0);
        room.party(128);
        Check.due("without a right", room.cost(0, 1, ALL), 8);
        room.seal(0, 10);
        Check.due("sealed", room.cost(0, 1, ALL), 8);
        Check.due("not counted", room.count(0, 1) + room.count(0, 2), 0);
        room.seal(0, 0);
        room.pass(1);
        room.right(1, 0, READ, 0, 5000);
        room.ask(1, 1, ALL);
        Check.due("what another knows", room.cost(0, 1, ALL), 8);
        Check.due("what it knows itself", room.cost(1, 1, ALL), 0);
    }

    private static void promise11Throws() {
        Dataroom room = Check.roomOf(1, READ, 1, 2);
        Check.dueIndex("cost of the party 1", () -> room.cost(1, 1, 0));
        Check.dueIndex("cost of the party -1", () -> room.cost(-1, 1, 0));
        Check.dueIndex("the index first", () -> room.cost(1, 0, 8));
        Check.dueArgument("no files", () -> room.cost(0, 0, 0));
        Check.dueArgument("a file that there is not", () -> room.cost(0, 4, 0));
        Check.dueArgument("a set below 0", () -> room.cost(0, -1, 0));
        Check.dueArgument("the bit 8", () -> room.cost(0, 1, 8));
        Check.dueArgument("the bit -2", () -> room.cost(0, 1, -2));
    }
}
