/** What follows from answers and what it costs, from nothing to all; and what is recalled of it, from none to all. */
public final class KnownTest {
    public static void main(String[] args) {
        oddNumbers();
        knownSets();
        knownSetsOfManyFiles();
        learnedOfBits();
        costs();
        findsASetOfOne();
        togetherByAllAnswers();
        changeRecalls();
        takeBackRecalls();
        recalledByThoseAnswers();
        recalledOnce();
        countsOfRecalled();
        Check.end();
    }

    private static void oddNumbers() {
        Run.due("1 if just an odd number of the files of the set have it: 0 to 4 of 4", """
                files 15 14 12 8
                parties 1 READ
                ask 0 {0-3} 4 = 0                # none
                ask 0 {0-3} 0 = 1                # one
                ask 0 {0-3} 1 = 0                # two
                ask 0 {0-3} 2 = 1                # three
                ask 0 {0-3} 3 = 0                # four
                ask 0 {0-3} NONE = 5
                """);
        Run.due("1 if just an odd number of the files of the set have it: 15 and 16 of 16", """
                16 times file 255
                parties 1 READ
                ask 0 {0-15} NONE = 0
                ask 0 {0-14} NONE = 255
                ask 0 {1-15} 7 = 1
                ask 0 {0-15} 0 = 0
                """);
        Run.due("only the files of the set count", """
                files 0 255 0
                parties 1 READ
                ask 0 {0,2} NONE = 0
                ask 0 {1} NONE = 255
                """);
    }

    private static void knownSets() {
        Run.due("by leaving out what both have, and taking what just one has", """
                files 1 1 1 1
                parties 1 READ
                ask 0 {0-2} 0
                ask 0 {1-3} 0
                cost 0 {0,3} 0 = 0
                cost 0 {1,2} 0 = 1
                cost 0 {0-3} 0 = 1               # what at least one has
                cost 0 {0,1} 0 = 1
                spent 0 = 2
                spentAnew 0 = 2
                """);
        Run.due("the same set twice leaves the empty set, that is known", """
                files 1 1
                parties 1 READ
                ask 0 {0,1} 0
                ask 0 {0,1} 0
                spent 0 = 1
                spentAnew 0 = 1
                cost 0 {0,1} 0 = 0
                """);
        Run.due("sets without a file in common are known together", """
                files 1 1 1 1
                parties 1 READ
                ask 0 {0,1} 0
                ask 0 {2,3} 0
                cost 0 {0-3} 0 = 0
                cost 0 {0,2} 0 = 1
                """);
        Run.due("the least number of known sets of which all others come: all of 3 files", """
                files 1 1 1
                parties 1 READ
                ask 0 {0-2} 0
                ask 0 {0,1} 0
                ask 0 {1,2} 0
                5 times ask 0 {0,2} 0
                ask 0 {0} 0
                ask 0 {1} 0
                ask 0 {2} 0
                spent 0 = 3
                spentAnew 0 = 3
                """);
    }

    private static void knownSetsOfManyFiles() {
        Run.due("the same, found by counting: sets of the highest of 16 files, of the lowest, and of both", """
                16 times file 1
                parties 1 READ
                ask 0 {15} 0
                ask 0 {0,15} 0
                spentAnew 0 = 2
                cost 0 {0} 0 = 0
                ask 0 {0-5} 0
                ask 0 {1} 0
                spentAnew 0 = 4
                ask 0 {6-15} 0
                ask 0 {0-15} 0
                spent 0 = 5
                spentAnew 0 = 5
                """);
        Run.due("the same, found by counting: the sets known are twice as many with each file of 16", """
                16 times file 1
                parties 1 READ
                ask 0 {0-15} 7
                ask 0 {1-15} 7
                ask 0 {2-15} 7
                ask 0 {3-15} 7
                ask 0 {4-15} 7
                ask 0 {5-15} 7
                spentAnew 0 = 6
                ask 0 {6-15} 7
                spentAnew 0 = 7
                ask 0 {7-15} 7
                ask 0 {8-15} 7
                ask 0 {9-15} 7
                ask 0 {10-15} 7
                ask 0 {11-15} 7
                ask 0 {12-15} 7
                ask 0 {13-15} 7
                ask 0 {14-15} 7
                spentAnew 0 = 15
                ask 0 {15} 7
                spentAnew 0 = 16
                5 times ask 0 {3,5} 7
                spentAnew 0 = 16
                """);
    }

    private static void learnedOfBits() {
        Run.due("those that were asked for that bit: a bit by itself, and all", """
                files 1 1
                parties 1 READ
                ask 0 {0} 0
                cost 0 {0} 0 = 0
                cost 0 {0} 1 = 1
                cost 0 {0} 7 = 1
                ask 0 {1} NONE
                cost 0 {1} 0 = 0
                cost 0 {1} 7 = 0
                cost 0 {0,1} 0 = 0
                cost 0 {0,1} 7 = 1
                spent 0 = 9
                spentAnew 0 = 9
                """);
        Run.due("what it has learned of all 8 bits, together: one after the other", """
                files 1
                parties 1 READ
                ask 0 {0} 0
                ask 0 {0} 1
                ask 0 {0} 2
                ask 0 {0} 3
                ask 0 {0} 4
                ask 0 {0} 5
                ask 0 {0} 6
                spent 0 = 7
                cost 0 {0} NONE = 1
                ask 0 {0} 7
                spent 0 = 8
                spentAnew 0 = 8
                cost 0 {0} NONE = 0
                """);
    }

    private static void costs() {
        Run.due("The cost of a question is by how much what was spent would be more: 0, 1, 7 and 8", """
                files 1 1
                parties 1 READ
                cost 0 {0,1} NONE = 8
                cost 0 {0,1} 3 = 1
                ask 0 {0,1} 3
                spent 0 = 1
                cost 0 {0,1} 3 = 0
                cost 0 {0,1} NONE = 7
                ask 0 {0,1} NONE
                spent 0 = 8
                cost 0 {0,1} NONE = 0
                cost 0 {0} NONE = 8
                """);
        Run.due("a question costs one of a bit at most, whatever follows", """
                files 1 1 1
                parties 1 READ
                ask 0 {0,1} 0
                ask 0 {1,2} 0
                cost 0 {0} 0 = 1
                ask 0 {0} 0
                finds 0 1 = 1
                finds 0 2 = 1
                spent 0 = 3
                """);
    }

    private static void findsASetOfOne() {
        Run.due("It can find a bit of a file, if the set of that file alone is known for that bit", """
                files 0 255 0
                parties 1 READ
                ask 0 {0-2} 0
                finds 0 0 = 0
                ask 0 {0,1} 0
                finds 0 0 = 0
                finds 0 2 = 1
                ask 0 {1} 7
                ask 0 {1,2} 7
                finds 0 1 = 128
                finds 0 2 = 129
                ask 0 {0} NONE
                finds 0 0 = 255
                finds 0 1 = 129
                """);
    }

    private static void togetherByAllAnswers() {
        Run.due("what some parties could find together, by all their answers", """
                files 1 1
                parties 3 READ
                ask 0 {0,1} 0
                ask 1 {0} 0
                ask 2 {1} 7
                together {0} 1 = 0
                together {1} 1 = 0
                together {0,1} 1 = 1
                together {0,2} 1 = 128
                together {1,2} 1 = 128
                together {0-2} 1 = 129
                together {0-2} 0 = 1
                finds 0 1 = 0
                """);
        Run.due("together: what is recalled is not known, by either of them", """
                files 1 1
                parties 2 READ
                ask 0 {0,1} 0
                ask 1 {0} 0
                together {0,1} 1 = 1
                takeBack 1 0 = 1
                together {0,1} 1 = 0
                together {0,1} 0 = 0
                """);
        Run.due("together: one party alone finds what finds tells", """
                files 1 1
                parties 1 READ
                ask 0 {0,1} NONE
                ask 0 {0} 5
                together {0} 0 = 32
                together {0} 1 = 32
                finds 0 1 = 32
                """);
    }

    private static void changeRecalls() {
        Run.due("when the number of a file is told anew: all answers for sets with it, of all parties", """
                files 1 1 1
                parties 2 READ
                ask 0 {0} 0
                ask 0 {0-2} NONE
                ask 0 {1,2} 0
                ask 1 {0,2} 0
                ask 1 {1} 0
                change 0 2 = 3
                told 0 = 0 1 0 1 1 0
                told 1 = 0 7 NONE 1 1 0
                told 2 = 0 6 0 0 0 0
                told 3 = 1 5 0 0 1 0
                told 4 = 1 2 0 1 0 0
                spent 0 = 1
                spentAnew 0 = 1
                spent 1 = 1
                """);
        Run.due("when the number of a file is told anew, also the same one", """
                files 7
                parties 1 READ
                ask 0 {0} NONE = 7
                change 0 7 = 1
                answer 0 4 = 1
                spent 0 = 0
                ask 0 {0} NONE = 7
                """);
        Run.due("change recalls none: without answers, and for sets without the file", """
                files 1 1
                change 0 2 = 0
                parties 1 READ
                change 0 3 = 0
                ask 0 {1} 0
                change 0 4 = 0
                answer 0 4 = 0
                """);
        Run.due("the highest of 16 files told anew", """
                16 times file 1
                parties 1 READ
                ask 0 {15} 0
                ask 0 {0-14} 0
                ask 0 {0-15} 0
                change 15 0 = 2
                spent 0 = 1
                ask 0 {0-15} 0 = 1
                """);
    }

    private static void takeBackRecalls() {
        Run.due("When a right is taken back, all answers to questions of the party for sets with that file", """
                files 1 1 1
                parties 2 READ
                ask 0 {0} 0
                ask 0 {0-2} NONE
                ask 0 {1,2} 0
                ask 1 {0,2} 0
                takeBack 0 0 = 2
                answer 0 4 = 1
                answer 1 4 = 1
                answer 2 4 = 0
                answer 3 4 = 0
                rightTo 0 0 = NOTHING
                rightTo 0 1 = READ
                rightTo 1 0 = READ
                spent 0 = 1
                spentAnew 0 = 1
                spent 1 = 1
                """);
        Run.due("a right that is given anew brings nothing back, and recalls nothing", """
                files 1
                parties 1 READ
                ask 0 {0} 0 = 1
                takeBack 0 0 = 1
                right 0 0 READ 0 9
                spent 0 = 0
                answer 0 4 = 1
                ask 0 {0} 0 = 1
                right 0 0 ASK 0 9
                spent 0 = 1
                takeBack 0 0 = 1
                """);
        Run.due("all 150 answers are recalled at once", """
                files 1
                parties 1 READ
                150 times ask 0 {0} NONE
                takeBack 0 0 = 150
                spent 0 = 0
                spentAnew 0 = 0
                finds 0 0 = 0
                together {0} 0 = 0
                """);
    }

    private static void recalledByThoseAnswers() {
        Run.due("What is recalled is not known any more, by those answers: but by others it is", """
                files 1 1 1
                parties 1 READ
                ask 0 {0,1} 0
                ask 0 {1,2} 0
                ask 0 {0,2} 0
                change 1 1 = 2
                cost 0 {0,2} 0 = 0
                cost 0 {0,1} 0 = 1
                spent 0 = 1
                spentAnew 0 = 1
                """);
        Run.due("What is recalled is not known any more: nor what followed from it, for sets without the file", """
                files 1 1 1
                parties 1 READ
                ask 0 {0,1} 0
                ask 0 {1,2} 0
                cost 0 {0,2} 0 = 0
                change 1 1 = 2
                cost 0 {0,2} 0 = 1
                spent 0 = 0
                """);
        Run.due("known of another party, it stays so", """
                files 1
                parties 2 READ
                ask 0 {0} 0
                ask 1 {0} 0
                takeBack 0 0 = 1
                finds 0 0 = 0
                finds 1 0 = 1
                together {0,1} 0 = 1
                """);
    }

    private static void recalledOnce() {
        Run.due("how many answers are recalled by that: not those recalled before", """
                files 1 1
                parties 2 READ
                ask 0 {0,1} 0
                ask 0 {0} 0
                ask 1 {0,1} 0
                takeBack 0 1 = 1
                change 0 2 = 2
                change 0 2 = 0
                change 1 2 = 0
                takeBack 0 0 = 0
                takeBack 1 0 = 0
                """);
        Run.due("the same question twice makes two answers to recall", """
                files 1
                parties 1 READ
                ask 0 {0} 0
                ask 0 {0} 0
                ask 0 {0} NONE
                takeBack 0 0 = 3
                """);
    }

    private static void countsOfRecalled() {
        Run.due("count, 0 those that were answered, also recalled ones; 5 those that are not recalled", """
                files 1 1
                parties 2 READ
                ask 0 {0} 0
                ask 0 {1} 0
                ask 0 {0} 0
                ask 1 {0} 0
                counts 0 = 3 0 0 0 0 3
                takeBack 0 0 = 2
                counts 0 = 3 0 0 0 0 1
                counts 1 = 1 0 0 0 0 1
                change 1 1 = 1
                counts 0 = 3 0 0 0 0 0
                """);
        Run.due("the answer, as it was given, also when the number is another one, and the hour too", """
                files 5 1
                parties 1 READ
                ask 0 {0} NONE = 5
                change 0 10 = 1
                pass 3
                told 0 = 0 1 NONE 5 1 0
                ask 0 {0} NONE = 10
                told 0 = 0 1 NONE 5 1 0
                told 1 = 0 1 NONE 10 0 3
                """);
    }
}
