/** Promises 1 to 9: files, parties, rights, seals and hours. */
public final class RoomTest {
    private static final int ALL = Dataroom.NONE;

    public static void main(String[] args) {
        promise1NewObject();
        promise2File();
        promise3Change();
        promise4Party();
        promise5Budget();
        promise6Right();
        promise6RightTakesThePlace();
        promise7TakeBack();
        promise7TakeBackOfOtherHours();
        promise8Seal();
        promise9Pass();
        Check.end();
    }

    private static void promise1NewObject() {
        Dataroom room = new Dataroom();
        Check.dueIndex("a file in a new room", () -> room.isSealed(0));
        Check.dueIndex("a party in a new room", () -> room.spent(0));
        Check.dueIndex("an answer in a new room", () -> room.answer(0, 0));
        Check.dueIndex("ask in a new room", () -> room.ask(0, 1, 0));
        Check.due("the first hour and one more", room.pass(1), 1);
        Dataroom other = Check.roomOf(1, Dataroom.READ, 5);
        other.ask(0, 1, ALL);
        other.pass(7);
        Dataroom beside = new Dataroom();
        Check.dueIndex("a file of another room", () -> beside.isSealed(0));
        Check.dueIndex("a party of another room", () -> beside.spent(0));
        Check.dueIndex("an answer of another room", () -> beside.answer(0, 0));
        Check.due("the hours of another room", beside.pass(1), 1);
    }

    private static void promise2File() {
        Dataroom room = new Dataroom();
        Check.dueArgument("file(-1)", () -> room.file(-1));
        Check.dueArgument("file(256)", () -> room.file(256));
        Check.dueArgument("file(least int)", () -> room.file(Integer.MIN_VALUE));
        Check.due("the first file", room.file(255), 0);
        for (int f = 1; f < 16; f++) {
            Check.due("file " + f, room.file(f == 1 ? 0 : 16 * f), f);
        }
        Check.dueState("the seventeenth file", () -> room.file(0));
        Check.dueArgument("the seventeenth file, out of range", () -> room.file(256));
        room.party(128);
        for (int f = 0; f < 16; f++) {
            room.right(0, f, Dataroom.READ, 0, 0);
        }
        Check.due("the number of the file 0", room.ask(0, 1, ALL), 255);
        Check.due("the number of the file 1", room.ask(0, 2, ALL), 0);
        Check.due("the number of the file 15", room.ask(0, 1 << 15, ALL), 240);
        Check.due("a new file is not sealed", room.isSealed(15), false);
    }

    private static void promise3Change() {
        Dataroom room = Check.roomOf(2, Dataroom.READ, 3, 5);
        Check.due("change with no answer", room.change(0, 1), 0);
        room.ask(0, 1, ALL);
        room.ask(0, 3, 2);
        room.ask(1, 3, 0);
        room.ask(1, 2, 0);
        Check.dueIndex("change(-1, 0)", () -> room.change(-1, 0));
        Check.dueIndex("change(2, 0)", () -> room.change(2, 0));
        Check.dueIndex("change(2, 256): the index first", () -> room.change(2, 256));
        Check.dueArgument("change(0, 256)", () -> room.change(0, 256));
        Check.dueArgument("change(0, -1)", () -> room.change(0, -1));
        Check.due("change recalls of all parties", room.change(0, 255), 3);
        Check.due("recalled, of the party 0", room.answer(0, 4) + room.answer(1, 4), 2);
        Check.due("recalled, of the party 1", room.answer(2, 4), 1);
        Check.due("not for a set with that file", room.answer(3, 4), 0);
        Check.due("spent is less by that", room.spent(0) + 10 * room.spent(1), 10);
        Check.due("the new number", room.ask(0, 1, ALL), 255);
        Check.due("the same number recalls too", room.change(0, 255), 1);
        Check.due("what is recalled is not recalled again", room.change(0, 255), 0);
        Check.due("the edge 0", room.change(1, 0), 1);
        Check.due("the sum with the edges", room.ask(1, 3, ALL), 255);
    }

    private static void promise4Party() {
        Dataroom room = new Dataroom();
        Check.dueArgument("party(-1)", () -> room.party(-1));
        Check.dueArgument("party(129)", () -> room.party(129));
        for (int p = 0; p < 6; p++) {
            Check.due("party " + p, room.party(p == 0 ? 128 : p - 1), p);
        }
        Check.dueState("the seventh party", () -> room.party(0));
        Check.dueArgument("the seventh party, out of range", () -> room.party(129));
        Check.due("the budget of the party 0", room.budget(0, 0), 128);
        Check.due("the budget of the party 5", room.budget(5, 0), 4);
        room.file(9);
        Check.due("a new party has no right", room.rightTo(5, 0), Dataroom.NOTHING);
        Check.due("a new party has spent nothing", room.spent(5), 0);
    }

    private static void promise5Budget() {
        Dataroom room = Check.roomOf(2, Dataroom.READ, 1);
        Check.due("the one before", room.budget(0, 8), 128);
        Check.due("the one before that", room.budget(0, 8), 8);
        Check.due("of the other party", room.budget(1, 128), 128);
        Check.dueIndex("budget(2, 0)", () -> room.budget(2, 0));
        Check.dueIndex("budget(-1, 0)", () -> room.budget(-1, 0));
        Check.dueIndex("budget(2, 129): the index first", () -> room.budget(2, 129));
        Check.dueArgument("budget(0, 129)", () -> room.budget(0, 129));
        Check.dueArgument("budget(0, -1)", () -> room.budget(0, -1));
        Check.due("a question for just the budget", room.ask(0, 1, ALL), 1);
        Check.due("less than what was spent", room.budget(0, 7), 8);
        Check.due("spent stays", room.spent(0), 8);
        Check.due("a costless question is refused then", room.ask(0, 1, 0), Dataroom.DEAR);
        room.budget(0, 8);
        Check.due("and answered again", room.ask(0, 1, 0), 1);
    }

    private static void promise6Right() {
        Dataroom room = new Dataroom();
        room.file(1);
        room.file(1);
        room.party(128);
        room.party(128);
        Check.dueIndex("right of no party", () -> room.right(2, 0, 1, 0, 1));
        Check.dueIndex("right of the party -1", () -> room.right(-1, 0, 1, 0, 1));
        Check.dueIndex("right to no file", () -> room.right(0, 2, 1, 0, 1));
        Check.dueIndex("right to the file -1", () -> room.right(0, -1, 1, 0, 1));
        Check.dueIndex("right to no file, out of range: the index first", () -> room.right(0, 2, 3, -1, 1));
        Check.dueArgument("right NOTHING", () -> room.right(0, 0, Dataroom.NOTHING, 0, 1));
        Check.dueArgument("right 3", () -> room.right(0, 0, 3, 0, 1));
        Check.dueArgument("from -1", () -> room.right(0, 0, 1, -1, 1));
        Check.dueArgument("to ahead of from", () -> room.right(0, 0, 1, 2, 1));
        Check.dueArgument("to 5001", () -> room.right(0, 0, 1, 0, 5001));
        Check.dueArgument("from and to 5001", () -> room.right(0, 0, 1, 5001, 5001));
        room.right(0, 1, Dataroom.ASK, 2, 3);
        String rights = "";
        for (int hour = 1; hour <= 4; hour++) {
            room.pass(1);
            rights += room.rightTo(0, 1);
        }
        Check.due("from and to are both counted", rights, "0110");
        Check.due("another file", room.rightTo(0, 0), Dataroom.NOTHING);
        Check.due("another party", room.rightTo(1, 1), Dataroom.NOTHING);
        room.right(1, 0, Dataroom.READ, 4, 4);
        Check.due("one hour alone", room.rightTo(1, 0), Dataroom.READ);
        room.right(1, 0, Dataroom.READ, 5000, 5000);
        Check.due("the last hour alone", room.rightTo(1, 0), Dataroom.NOTHING);
    }

    private static void promise6RightTakesThePlace() {
        Dataroom room = Check.roomOf(1, Dataroom.READ, 1, 2);
        room.ask(0, 1, ALL);
        room.right(0, 0, Dataroom.ASK, 0, 10);
        Check.due("a later right takes the place", room.rightTo(0, 0), Dataroom.ASK);
        Check.due("nothing is recalled by it", room.answer(0, 4), 0);
        room.right(0, 0, Dataroom.READ, 20, 30);
        Check.due("also when it is of later hours", room.rightTo(0, 0), Dataroom.NOTHING);
        Check.dueArgument("a wrong one does not", () -> room.right(0, 1, Dataroom.ASK, 1, 0));
        Check.due("the one before stays", room.rightTo(0, 1), Dataroom.READ);
    }

    private static void promise7TakeBack() {
        Dataroom room = Check.roomOf(2, Dataroom.READ, 3, 5, 6);
        room.ask(0, 1, ALL);
        room.ask(0, 3, ALL);
        room.ask(0, 6, 0);
        room.ask(1, 1, ALL);
        Check.dueIndex("takeBack of no party", () -> room.takeBack(2, 0));
        Check.dueIndex("takeBack of the party -1", () -> room.takeBack(-1, 0));
        Check.dueIndex("takeBack of no file", () -> room.takeBack(0, 3));
        Check.dueIndex("takeBack of the file -1", () -> room.takeBack(0, -1));
        Check.due("recalled for sets with that file", room.takeBack(0, 0), 2);
        Check.due("no right any more", room.rightTo(0, 0), Dataroom.NOTHING);
        Check.due("the other right stays", room.rightTo(0, 1), Dataroom.READ);
        Check.due("the right of the other stays", room.rightTo(1, 0), Dataroom.READ);
        Check.due("the answer of the other is not recalled", room.answer(3, 4), 0);
        Check.due("nor that for a set without the file", room.answer(2, 4), 0);
        Check.due("spent", room.spent(0) + 100 * room.spent(1), 801);
        Check.due("without a right", room.takeBack(0, 0), 0);
        Check.due("what is recalled is not recalled again", room.takeBack(0, 1), 1);
    }

    private static void promise7TakeBackOfOtherHours() {
        Dataroom room = Check.roomOf(1, Dataroom.READ, 3, 5);
        room.ask(0, 1, ALL);
        room.ask(0, 3, ALL);
        room.right(0, 0, Dataroom.READ, 7, 9);
        Check.due("a right of later hours", room.takeBack(0, 0), 2);
        room.ask(0, 2, ALL);
        room.right(0, 1, Dataroom.ASK, 0, 0);
        room.pass(1);
        Check.due("a right whose hours are over", room.takeBack(0, 1), 1);
        room.right(0, 0, Dataroom.READ, 0, 5000);
        room.ask(0, 1, 0);
        room.ask(0, 1, 0);
        Check.due("each answer counts, also the same", room.takeBack(0, 0), 2);
        room.right(0, 0, Dataroom.READ, 0, 5000);
        Check.due("a right with nothing to recall", room.takeBack(0, 0), 0);
    }

    private static void promise8Seal() {
        Dataroom room = Check.roomOf(1, Dataroom.READ, 1, 1);
        Check.dueIndex("seal(2, 0)", () -> room.seal(2, 0));
        Check.dueIndex("seal(-1, 0)", () -> room.seal(-1, 0));
        Check.dueIndex("seal(2, 5001): the index first", () -> room.seal(2, 5001));
        Check.dueArgument("seal(0, 5001)", () -> room.seal(0, 5001));
        Check.dueArgument("seal(0, -1)", () -> room.seal(0, -1));
        room.seal(0, 0);
        Check.due("sealed till now", room.isSealed(0), true);
        Check.due("the other one is not", room.isSealed(1), false);
        Check.due("a sealed file in the set", room.ask(0, 3, 0), Dataroom.SEALED);
        Check.due("a set without it", room.ask(0, 2, 0), 1);
        room.pass(1);
        Check.due("open behind it", room.isSealed(0), false);
        Check.due("and asked", room.ask(0, 3, 0), 0);
        room.seal(0, 5000);
        Check.dueArgument("a wrong seal", () -> room.seal(0, -1));
        Check.due("sealed till the last hour", room.isSealed(0), true);
        room.seal(0, 2);
        room.pass(1);
        Check.due("the later one took the place", room.isSealed(0), true);
        room.pass(1);
        Check.due("and has ended", room.isSealed(0), false);
        room.seal(0, 100);
        room.seal(0, 2);
        Check.due("one behind which now is ends the seal", room.isSealed(0), false);
    }

    private static void promise9Pass() {
        Dataroom room = Check.roomOf(1, Dataroom.READ, 1);
        Check.dueArgument("pass(0)", () -> room.pass(0));
        Check.dueArgument("pass(501)", () -> room.pass(501));
        Check.dueArgument("pass(least int)", () -> room.pass(Integer.MIN_VALUE));
        Check.dueArgument("pass(most int)", () -> room.pass(Integer.MAX_VALUE));
        Check.due("an hour", room.pass(1), 1);
        for (int i = 1; i <= 9; i++) {
            Check.due("500 hours", room.pass(500), 500 * i + 1);
        }
        Check.dueState("behind 5000", () -> room.pass(500));
        Check.dueArgument("behind 5000, out of range", () -> room.pass(501));
        Check.due("up to 5000", room.pass(499), 5000);
        Check.dueState("an hour more", () -> room.pass(1));
        Check.due("in the last hour", room.ask(0, 1, 0), 1);
        Check.due("the hour of it", room.answer(0, 5), 5000);
    }
}
