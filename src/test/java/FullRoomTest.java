/** Empty and full: 16 files, 6 parties, 150 answers, 512 calls and one less or more; the empty set and the full one. */
public final class FullRoomTest {
    private static final String SIXTEEN_FILES = "files 0 1 2 3 4 5 6 7 8 9 10 11 12 13 14 15\n";

    public static void main(String[] args) {
        newRoom();
        sixteenFiles();
        callsOfSixteenFiles();
        sixParties();
        callsOfSixParties();
        mostAnswers();
        whatCountsAmongTheAnswers();
        behindMostAnswers();
        emptySets();
        fullSets();
        mostThatCanBeSpent();
        mostCalls();
        Check.end();
    }

    private static void newRoom() {
        Run.due("Creates a room without files", """
                party 128
                change 0 0 = index
                right 0 0 ASK 0 0 = index
                takeBack 0 0 = index
                seal 0 0 = index
                finds 0 0 = index
                together {0} 0 = index
                rightTo 0 0 = index
                isSealed 0 = index
                ask 0 {0} 0 = argument
                ask 0 0 0 = argument
                cost 0 {0} 0 = argument
                cost 0 0 0 = argument
                spent 0 = 0
                spentAnew 0 = 0
                counts 0 = 0 0 0 0 0 0
                file 9 = 0
                """);
        Run.due("Creates a room without parties", """
                file 9
                budget 0 0 = index
                right 0 0 ASK 0 0 = index
                takeBack 0 0 = index
                ask 0 {0} 0 = index
                cost 0 {0} 0 = index
                spent 0 = index
                spentAnew 0 = index
                finds 0 0 = index
                rightTo 0 0 = index
                count 0 0 = index
                together {0} 0 = argument
                together 0 0 = 0
                change 0 8 = 0
                party 9 = 0
                """);
        Run.due("a new room has no answers", """
                answer 0 0 = index
                answer -1 0 = index
                answer 0 6 = index
                """);
        Run.due("now is 0 at first", "pass 1 = 1");
    }

    private static void sixteenFiles() {
        Run.due("Files are numbered from 0, at most 16", """
                file 255 = 0
                file 255 = 1
                file 255 = 2
                12 times file 0
                file 0 = 15
                file 0 = state
                file 255 = state
                file 255 = state
                """);
        Run.due("a file that was refused as out of range takes no place", """
                file 256 = argument
                15 times file 0
                file 256 = argument
                file 0 = 15
                file 256 = argument      # if several apply, the first that is named
                file -1 = argument
                file 0 = state
                """);
    }

    private static void callsOfSixteenFiles() {
        Run.due("the last of 16 files, and none behind it", SIXTEEN_FILES + """
                parties 1 ASK
                right 0 16 READ 0 9 = index
                right 0 15 READ 0 9
                rightTo 0 16 = index
                rightTo 0 15 = READ
                rightTo 0 14 = ASK
                ask 0 {16} NONE = argument
                ask 0 {15} NONE = 15
                finds 0 16 = index
                finds 0 15 = 255
                finds 0 0 = 0
                together {0} 16 = index
                together {0} 15 = 255
                cost 0 {16} NONE = argument
                cost 0 {15} NONE = 0
                seal 16 0 = index
                seal 15 0
                isSealed 16 = index
                isSealed 15 = true
                isSealed 14 = false
                change 16 0 = index
                change 15 0 = 1
                takeBack 0 16 = index
                takeBack 0 15 = 0
                rightTo 0 15 = NOTHING
                """);
        Run.due("a right to the last of 16 files is asked for, too", SIXTEEN_FILES + """
                parties 1 READ
                seal 15 0
                ask 0 {0,15} 0 = SEALED
                ask 0 {0-14} 0 = 1
                takeBack 0 15 = 0
                ask 0 {0,15} 0 = NO_RIGHT
                pass 1
                ask 0 {0-14} 1 = 1
                right 0 15 ASK 0 9
                ask 0 {0-15} 0 = TELLS
                ask 0 {0-15} 2 = 0
                right 0 15 READ 0 9
                ask 0 {0-15} 0 = 0
                finds 0 15 = 1
                """);
    }

    private static void sixParties() {
        Run.due("Parties are numbered from 0, at most 6", """
                party 0 = 0
                party 128 = 1
                party 1 = 2
                party 2 = 3
                party 3 = 4
                party 4 = 5
                party 0 = state
                party 128 = state
                """);
        Run.due("a party that was refused as out of range takes no place", """
                party 129 = argument
                5 times party 0
                party 129 = argument
                party 7 = 5
                party 129 = argument     # if several apply, the first that is named
                party -1 = argument
                party 0 = state
                budget 5 0 = 7
                """);
    }

    private static void callsOfSixParties() {
        Run.due("the last of 6 parties, and none behind it", """
                files 3
                parties 6 ASK
                budget 6 0 = index
                budget 5 9 = 128
                right 6 0 READ 0 9 = index
                right 5 0 READ 0 9
                rightTo 6 0 = index
                rightTo 5 0 = READ
                rightTo 4 0 = ASK
                ask 6 {0} NONE = index
                ask 5 {0} NONE = 3
                cost 6 {0} NONE = index
                cost 5 {0} NONE = 0
                cost 4 {0} NONE = 8
                spent 6 = index
                spent 5 = 8
                spentAnew 6 = index
                spentAnew 5 = 8
                finds 6 0 = index
                finds 5 0 = 255
                together {6} 0 = argument
                together {0-6} 0 = argument
                together {0-5} 0 = 255
                together {5} 0 = 255
                together {0-4} 0 = 0
                count 6 0 = index
                counts 5 = 1 0 0 0 0 1
                told 0 = 5 1 NONE 3 0 0
                takeBack 6 0 = index
                takeBack 4 0 = 0
                takeBack 5 0 = 1
                """);
        Run.due("all answers for sets with it, of all parties: of the first and of the last of 6", """
                files 3
                parties 6 READ
                ask 0 {0} 0
                ask 5 {0} 0
                change 0 3 = 2
                spent 0 = 0
                spent 5 = 0
                """);
    }

    private static void mostAnswers() {
        Run.due("answers are numbered from 0, of all parties together, at most 150", """
                files 1
                parties 2 READ
                ask 1 {0} 0 = 1
                74 times ask 0 {0} 0 = 1
                74 times ask 1 {0} 1 = 0
                answer 149 0 = index
                ask 0 {0} NONE = 1
                ask 0 {0} NONE = state
                ask 1 {0} 0 = state
                told 0 = 1 1 0 1 0 0
                told 1 = 0 1 0 1 0 0
                told 149 = 0 1 NONE 1 0 0
                answer 150 0 = index
                counts 0 = 75 0 0 0 0 75
                counts 1 = 75 0 0 0 0 75
                """);
        Run.due("there are 150, of one party alone", """
                files 1
                parties 1 READ
                149 times ask 0 {0} 0 = 1
                ask 0 {0} 0 = 1
                ask 0 {0} 0 = state
                count 0 0 = 150
                """);
    }

    private static void whatCountsAmongTheAnswers() {
        Run.due("a refused question is not among the 150", """
                files 1
                parties 1 READ
                party 128
                3 times ask 1 {0} 0 = NO_RIGHT
                149 times ask 0 {0} 0 = 1
                ask 1 {0} 0 = NO_RIGHT
                ask 0 0 0 = argument
                ask 0 {0} 0 = 1
                ask 0 {0} 0 = state
                """);
        Run.due("a recalled answer is among the 150", """
                files 1
                parties 1 READ
                149 times ask 0 {0} 0 = 1
                change 0 1 = 149
                ask 0 {0} 0 = 1
                ask 0 {0} 0 = state
                change 0 1 = 1
                ask 0 {0} 0 = state
                """);
        Run.due("Throws IllegalStateException if there are 150 answers: also one that would be refused", """
                files 1 2
                parties 1 READ
                party 128
                right 0 1 ASK 0 9
                150 times ask 0 {0} 0 = 1
                ask 1 {0} 0 = state       # NO_RIGHT else
                ask 0 {1} 0 = state       # TELLS else
                budget 0 0
                ask 0 {0} 0 = state       # DEAR else
                seal 0 0
                ask 0 {0} 0 = state       # SEALED else
                counts 0 = 150 0 0 0 0 150
                counts 1 = 0 0 0 0 0 0
                """);
    }

    private static void behindMostAnswers() {
        Run.due("all else is asked behind 150 answers as ahead of them", """
                files 1 2
                parties 1 READ
                149 times ask 0 {0} 0 = 1
                ask 0 {0,1} 0 = 1
                cost 0 {0} NONE = 7
                cost 0 {1} 0 = 0
                spent 0 = 2
                spentAnew 0 = 2
                finds 0 1 = 1
                pass 500 = 500
                file 3 = 2
                party 3 = 1
                change 1 0 = 1
                takeBack 0 0 = 149
                counts 0 = 150 0 0 0 0 0
                told 149 = 0 3 0 1 1 0
                spentAnew 0 = 0
                """);
    }

    private static void emptySets() {
        Run.due("a set of files, not empty", """
                files 1
                parties 1 READ
                ask 0 0 0 = argument
                ask 0 0 NONE = argument
                cost 0 0 0 = argument
                cost 0 0 NONE = argument
                ask 0 {0} NONE = 1
                """);
        Run.due("a party knows the empty set: for nothing asked it has spent nothing", """
                files 1
                parties 1 READ
                spent 0 = 0
                spentAnew 0 = 0
                ask 0 {0} 3
                spent 0 = 1
                spentAnew 0 = 1
                """);
        Run.due("the empty set of parties finds nothing", """
                files 1
                parties 2 READ
                together 0 0 = 0
                ask 0 {0} NONE
                ask 1 {0} NONE
                together 0 0 = 0
                together {0} 0 = 255
                """);
    }

    private static void fullSets() {
        Run.due("the set of all 16 files", """
                files 1 2 4 8 16 32 64 128 255 255 255 255 255 255 255 254
                parties 1 READ
                ask 0 65536 NONE = argument
                cost 0 65536 NONE = argument
                cost 0 65535 NONE = 8
                ask 0 65535 NONE = 254
                answer 0 1 = 65535
                cost 0 65535 NONE = 0
                spent 0 = 8
                spentAnew 0 = 8
                ask 0 {0-14} NONE = 0
                finds 0 15 = 255
                """);
        Run.due("all files of 15, and one more", """
                files 1 2 4 8 16 32 64 128 1 2 4 8 16 32 64
                parties 1 READ
                ask 0 32768 NONE = argument
                ask 0 32767 NONE = 128
                file 7 = 15
                ask 0 32768 NONE = NO_RIGHT
                """);
        Run.due("the set of all 6 parties, each of which is needed", """
                files 1 1 1 1 1 1
                parties 6 ASK
                right 5 5 READ 0 9
                ask 0 {0,1} 7 = 0
                ask 1 {1,2} 7 = 0
                ask 2 {2,3} 7 = 0
                ask 3 {3,4} 7 = 0
                ask 4 {4,5} 7 = 0
                ask 5 {5} 7 = 0
                together 64 0 = argument
                together 127 0 = argument
                together 63 0 = 128
                together {1-5} 0 = 0
                together {0,2-5} 0 = 0
                together {0-1,3-5} 0 = 0
                together {0-2,4-5} 0 = 0
                together {0-3,5} 0 = 0
                together {0-4} 0 = 0
                """);
    }

    private static void mostThatCanBeSpent() {
        StringBuilder asked = new StringBuilder();
        for (int f = 0; f < 15; f++) {
            asked.append("ask 0 {").append(f).append("} NONE = 1\n");
        }
        Run.due("16 files, 8 bits: 128 are spent at most, and not more than the budget 128",
                "files 1 1 1 1 1 1 1 1 1 1 1 1 1 1 1 1\nparties 1 READ\n" + asked + """
                spent 0 = 120
                budget 0 127
                ask 0 {15} NONE = DEAR
                cost 0 {15} NONE = 8
                budget 0 128
                ask 0 {15} NONE = 1
                spent 0 = 128
                spentAnew 0 = 128
                cost 0 {0-15} NONE = 0
                ask 0 {0-15} NONE = 0
                spent 0 = 128
                spentAnew 0 = 128
                finds 0 15 = 255
                change 15 1 = 2
                spent 0 = 120
                spentAnew 0 = 120
                """);
    }

    private static void mostCalls() {
        int calls = Run.due("An object is used for at most 512 calls: also the last of them is answered", """
                files 1 2
                parties 1 READ
                150 times ask 0 {0,1} NONE = 3
                100 times cost 0 {0} NONE = 8
                10 times pass 500
                change 0 255 = 150
                237 times spentAnew 0 = 0
                pass 1 = state
                ask 0 {0} 0 = state
                told 149 = 0 3 NONE 3 1 0
                count 0 0 = 150
                """);
        Check.due("the calls of that run", calls, Run.MOST_CALLS);
    }
}
