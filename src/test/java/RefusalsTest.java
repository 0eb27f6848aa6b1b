/** The four refusals of a question, their edges, and which one is told where several apply. */
public final class RefusalsTest {
    public static void main(String[] args) {
        noRight();
        sealed();
        tells();
        tellsOfOtherFiles();
        tellsOfBits();
        findsAheadOfThat();
        dear();
        dearAlsoIfItCostsNothing();
        twoApply();
        severalApply();
        refusedIsNoAnswer();
        Check.end();
    }

    private static void noRight() {
        Run.due("1 no right to some file of the set: the lowest, the highest, one between, or all", """
                files 1 1 1 1 1
                party 128
                right 0 1 READ 0 9
                right 0 2 READ 0 9
                right 0 3 READ 0 9
                ask 0 {0,1,2} 0 = NO_RIGHT
                ask 0 {1-4} 0 = NO_RIGHT
                ask 0 {1,3} 0 = 0
                takeBack 0 2 = 0
                ask 0 {1-3} 0 = NO_RIGHT
                ask 0 {0,4} 0 = NO_RIGHT
                ask 0 {0} NONE = NO_RIGHT
                counts 0 = 1 5 0 0 0 1
                """);
        Run.due("1 no right to a file that is not of the set does not refuse", """
                files 1 1
                party 128
                right 0 0 READ 0 9
                ask 0 {0} 0 = 1
                ask 0 {1} 0 = NO_RIGHT
                """);
        Run.due("1 a right to ASK is right enough, and that of another party is none", """
                files 1 1
                parties 1 ASK
                party 128
                ask 0 {0,1} 0 = 0
                ask 1 {0,1} 0 = NO_RIGHT
                """);
        Run.due("1 also what is known, or costs nothing, is refused without a right", """
                files 1
                parties 1 READ
                ask 0 {0} 0 = 1
                right 0 0 READ 1 1
                ask 0 {0} 0 = NO_RIGHT
                """);
    }

    private static void sealed() {
        Run.due("2 some file of the set is sealed: the lowest, the highest, one between, or all", """
                files 1 1 1 1 1
                parties 1 READ
                seal 0 9
                seal 4 9
                ask 0 {0-2} 0 = SEALED
                ask 0 {2-4} 0 = SEALED
                ask 0 {1-3} 0 = 1
                seal 2 9
                ask 0 {1-3} 0 = SEALED
                ask 0 {0,4} 0 = SEALED
                ask 0 {0} NONE = SEALED
                counts 0 = 1 0 5 0 0 1
                """);
        Run.due("2 a seal of a file that is not of the set does not refuse, also one that is found by it", """
                files 1 1
                parties 1 READ
                ask 0 {0,1} 0 = 0
                seal 1 9
                ask 0 {0} 0 = 1
                finds 0 1 = 1
                """);
        Run.due("2 also what is known is refused of a sealed file, to READ or not", """
                files 1
                parties 1 READ
                ask 0 {0} 0 = 1
                seal 0 9
                ask 0 {0} 0 = SEALED
                """);
    }

    private static void tells() {
        Run.due("3 a set of one file tells of it: to ASK alone is refused, to READ is not", """
                files 1
                parties 1 ASK
                parties 1 READ
                ask 0 {0} 0 = TELLS
                ask 0 {0} NONE = TELLS
                ask 1 {0} 0 = 1
                ask 1 {0} NONE = 1
                """);
        Run.due("3 a set of two files, to ASK alone, tells of none; a third set closes the ring", """
                files 1 1 1
                parties 1 ASK
                ask 0 {0,1} 0 = 0
                ask 0 {1,2} 0 = 0
                ask 0 {0,2} 0 = 0
                finds 0 0 = 0
                ask 0 {0-2} 0 = TELLS
                """);
        Run.due("3 what another party knows does not tell", """
                files 1 1
                parties 2 ASK
                right 1 0 READ 0 9
                ask 1 {0} 0 = 1
                ask 0 {0,1} 0 = 0
                ask 1 {0,1} 0 = TELLS
                """);
    }

    private static void tellsOfOtherFiles() {
        Run.due("3 of some file, of the set or not: the one that is left, to ASK alone", """
                files 1 1
                parties 1 ASK
                right 0 0 READ 0 9
                ask 0 {0,1} 0 = 0
                ask 0 {0} 0 = TELLS
                right 0 1 READ 0 9
                ask 0 {0} 0 = 1
                finds 0 1 = 1
                """);
        Run.due("3 of some file, of the set or not: the highest of 16, found through all others", """
                16 times file 1
                parties 1 READ
                ask 0 {0-15} 0 = 0
                right 0 15 ASK 0 9
                ask 0 {0-14} 0 = TELLS
                ask 0 {0-13} 0 = 0
                ask 0 {14} 0 = TELLS
                ask 0 {13} 0 = 1
                finds 0 15 = 0
                """);
        Run.due("3 of some file, of the set or not: the lowest, found through a chain", """
                files 1 1 1 1
                parties 1 READ
                right 0 0 ASK 0 9
                ask 0 {0,1} 0 = 0
                ask 0 {1,2} 0 = 0
                ask 0 {2,3} 0 = 0
                ask 0 {3} 0 = TELLS
                ask 0 {1} 0 = TELLS
                ask 0 {1,3} 0 = 0
                right 0 0 READ 0 9
                ask 0 {3} 0 = 1
                finds 0 0 = 1
                """);
        Run.due("3 to which it has no right to READ: also one to which it has no right at all any more", """
                files 1 1 1
                parties 1 READ
                ask 0 {0,1} 0 = 0
                right 0 1 READ 0 0
                pass 1
                rightTo 0 1 = NOTHING
                ask 0 {0} 0 = TELLS
                ask 0 {2} 0 = 1
                """);
        Run.due("3 of two files that it would find one to ASK alone is enough, the lower or the higher", """
                files 1 1 1
                parties 1 READ
                ask 0 {0,1} 0 = 0
                ask 0 {1,2} 0 = 0
                right 0 0 ASK 0 9
                ask 0 {1} 0 = TELLS
                right 0 0 READ 0 9
                right 0 2 ASK 0 9
                ask 0 {1} 0 = TELLS
                right 0 2 READ 0 9
                ask 0 {1} 0 = 1
                """);
    }

    private static void tellsOfBits() {
        Run.due("3 a bit: of the lowest and of the highest, and not what was asked of another one", """
                files 129 1
                parties 1 ASK
                ask 0 {0,1} 0 = 0
                ask 0 {0,1} 7 = 1
                right 0 0 READ 0 9
                ask 0 {0} 7 = TELLS
                ask 0 {0} 0 = TELLS
                ask 0 {0} 1 = 0
                ask 0 {0} 6 = 0
                finds 0 0 = 66
                """);
        Run.due("3 a bit: one of eight is enough, when all are asked", """
                files 1 1
                parties 1 ASK
                right 0 0 READ 0 9
                ask 0 {0,1} 7 = 0
                ask 0 {0} NONE = TELLS
                6 times ask 0 {0} 6 = 0
                right 0 1 READ 0 9
                ask 0 {0} NONE = 1
                finds 0 1 = 128
                """);
        Run.due("3 a bit: all that are asked count for each of them", """
                files 1 1
                parties 1 ASK
                right 0 0 READ 0 9
                ask 0 {0,1} NONE = 0
                ask 0 {0} 0 = TELLS
                ask 0 {0} 7 = TELLS
                ask 0 {0} NONE = TELLS
                """);
    }

    private static void findsAheadOfThat() {
        Run.due("3 that it cannot find ahead of that: what it has found is told again, to ASK alone", """
                files 1 1
                parties 1 READ
                ask 0 {0} 0 = 1
                right 0 0 ASK 0 9
                ask 0 {0} 0 = 1
                ask 0 {0} 1 = TELLS
                ask 0 {0} NONE = TELLS
                ask 0 {1} 0 = 1
                ask 0 {0,1} 0 = 0
                ask 0 {0,1} 1 = 0
                """);
        Run.due("3 that it cannot find ahead of that: found by what follows, not by being asked", """
                files 1 1
                parties 1 READ
                ask 0 {0,1} 0 = 0
                ask 0 {1} 0 = 1
                right 0 0 ASK 0 9
                ask 0 {0} 0 = 1
                """);
        Run.due("3 that it cannot find ahead of that: no more, when what it was found by is recalled", """
                files 1 1
                parties 1 READ
                ask 0 {0} 0 = 1
                right 0 0 ASK 0 9
                change 0 1 = 1
                ask 0 {0} 0 = TELLS
                """);
    }

    private static void dear() {
        Run.due("4 more than its budget: the budget itself is not, one above it is", """
                files 1 1
                parties 1 READ
                budget 0 8
                ask 0 {0} 0 = 1
                ask 0 {1} NONE = DEAR            # 1 and 8
                ask 0 {0} NONE = 1               # 1 and 7
                spent 0 = 8
                ask 0 {1} 0 = DEAR               # 8 and 1
                budget 0 9
                ask 0 {1} 0 = 1
                spent 0 = 9
                """);
        Run.due("4 the budgets 0 and 1", """
                files 1
                parties 1 READ
                budget 0 0
                ask 0 {0} 0 = DEAR
                ask 0 {0} NONE = DEAR
                budget 0 1
                ask 0 {0} NONE = DEAR
                ask 0 {0} 0 = 1
                ask 0 {0} 1 = DEAR
                counts 0 = 1 0 0 0 4 1
                """);
        Run.due("4 all bits, for just 8, and with 7", """
                files 1 1
                parties 1 READ
                budget 0 7
                ask 0 {0} NONE = DEAR
                budget 0 8
                ask 0 {0} NONE = 1
                budget 0 15
                ask 0 {1} NONE = DEAR
                budget 0 16
                ask 0 {1} NONE = 1
                """);
        Run.due("4 what another party has spent does not count", """
                files 1
                parties 2 READ
                budget 0 8
                budget 1 1
                ask 0 {0} NONE = 1
                ask 1 {0} 0 = 1
                """);
    }

    private static void dearAlsoIfItCostsNothing() {
        Run.due("4 also if it costs nothing: not at the budget, but above it", """
                files 1
                parties 1 READ
                ask 0 {0} NONE = 1
                budget 0 8
                cost 0 {0} 0 = 0
                ask 0 {0} 0 = 1
                ask 0 {0} NONE = 1
                budget 0 7
                cost 0 {0} 0 = 0
                ask 0 {0} 0 = DEAR
                ask 0 {0} NONE = DEAR
                budget 0 0
                ask 0 {0} 0 = DEAR
                spent 0 = 8
                """);
        Run.due("4 what is recalled is not spent any more", """
                files 1 1
                parties 1 READ
                ask 0 {0} NONE = 1
                ask 0 {1} 0 = 1
                budget 0 1
                ask 0 {1} 0 = DEAR
                takeBack 0 0 = 1
                ask 0 {1} 0 = 1
                ask 0 {1} 1 = DEAR
                """);
    }

    private static void twoApply() {
        Run.due("no right and sealed: of the same file, and of two", """
                files 1 1
                party 128
                right 0 1 READ 0 9
                seal 0 9
                ask 0 {0} 0 = NO_RIGHT
                seal 0 0
                seal 1 9
                pass 1
                ask 0 {0,1} 0 = NO_RIGHT
                ask 0 {1} 0 = SEALED
                """);
        Run.due("no right and telling", """
                files 1
                party 128
                ask 0 {0} 0 = NO_RIGHT
                right 0 0 ASK 0 9
                ask 0 {0} 0 = TELLS
                """);
        Run.due("no right and dear", """
                files 1
                party 0
                ask 0 {0} 0 = NO_RIGHT
                right 0 0 READ 0 9
                ask 0 {0} 0 = DEAR
                """);
        Run.due("sealed and telling: of the same file, and of two", """
                files 1 1
                parties 1 ASK
                right 0 1 READ 0 9
                ask 0 {0,1} 0 = 0
                seal 1 9
                ask 0 {1} 0 = SEALED
                seal 0 9
                ask 0 {0} 1 = SEALED
                seal 0 0
                pass 1
                ask 0 {0} 1 = TELLS
                """);
        Run.due("sealed and dear", """
                files 1
                parties 1 READ
                budget 0 0
                seal 0 0
                ask 0 {0} 0 = SEALED
                pass 1
                ask 0 {0} 0 = DEAR
                """);
        Run.due("telling and dear", """
                files 1
                parties 1 ASK
                budget 0 0
                ask 0 {0} 0 = TELLS
                right 0 0 READ 0 9
                ask 0 {0} 0 = DEAR
                """);
    }

    private static void severalApply() {
        Run.due("all four, then the last three, the last two and the last", """
                files 1
                party 0
                right 0 0 ASK 1 9
                seal 0 1
                ask 0 {0} 0 = NO_RIGHT
                pass 1
                ask 0 {0} 0 = SEALED
                pass 1
                ask 0 {0} 0 = TELLS
                right 0 0 READ 0 9
                ask 0 {0} 0 = DEAR
                budget 0 1
                ask 0 {0} 0 = 1
                counts 0 = 1 1 1 1 1 1
                """);
        Run.due("the first and one of the others, or two", """
                files 1 1
                party 0
                right 0 1 ASK 0 0
                seal 1 0
                ask 0 {0,1} 0 = NO_RIGHT         # sealed and dear, too
                ask 0 {1} 0 = SEALED             # telling and dear, too
                pass 1
                right 0 0 ASK 0 9
                ask 0 {0,1} 0 = NO_RIGHT         # dear, too
                right 0 1 ASK 0 9
                ask 0 {0,1} 0 = DEAR
                counts 0 = 0 2 1 0 1 0
                """);
    }

    private static void refusedIsNoAnswer() {
        Run.due("Otherwise it is answered: what is refused has no number, is not learned and not spent", """
                files 1 1
                parties 1 READ
                party 128
                right 0 1 ASK 0 9
                ask 1 {0} 0 = NO_RIGHT
                ask 0 {1} 0 = TELLS
                budget 0 0
                ask 0 {0} 0 = DEAR
                seal 0 0
                ask 0 {0} 0 = SEALED
                answer 0 0 = index
                spent 0 = 0
                spentAnew 0 = 0
                finds 0 0 = 0
                cost 0 {0} 0 = 1
                counts 0 = 0 0 1 1 1 0
                counts 1 = 0 1 0 0 0 0
                change 0 1 = 0
                takeBack 0 0 = 0
                """);
        Run.due("the cost of a question, whether it would be refused or not: it counts and changes nothing", """
                files 1
                party 0
                cost 0 {0} NONE = 8              # no right
                right 0 0 ASK 0 9
                seal 0 0
                cost 0 {0} NONE = 8              # sealed
                pass 1
                cost 0 {0} NONE = 8              # telling
                right 0 0 READ 0 9
                cost 0 {0} NONE = 8              # dear
                budget 0 128
                cost 0 {0} NONE = 8
                counts 0 = 0 0 0 0 0 0
                spent 0 = 0
                answer 0 0 = index
                """);
    }
}
