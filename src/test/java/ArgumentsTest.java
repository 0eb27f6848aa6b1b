/** The ranges of all arguments: the least and the largest value, and the first one outside on either side. */
public final class ArgumentsTest {
    public static void main(String[] args) {
        promise2File();
        promise3Change();
        promise4Party();
        promise5Budget();
        promise6RightOfWhomToWhat();
        promise6RightAndItsHours();
        promise7TakeBack();
        promise8Seal();
        promise9Pass();
        promise10Ask();
        promise11Cost();
        promise12Answer();
        promises13And14Spent();
        promises15And17FindsAndRightTo();
        promise16Together();
        promise18IsSealed();
        promise19Count();
        Check.end();
    }

    private static void promise2File() {
        Run.due("file, number: 0 to 255", """
                file 0 = 0
                file 255 = 1
                file -1 = argument
                file 256 = argument
                file MIN = argument
                file MAX = argument
                parties 1 READ
                ask 0 {0} NONE = 0
                ask 0 {1} NONE = 255
                """);
    }

    private static void promise3Change() {
        Run.due("change, file: the number of a file", """
                files 1 2
                parties 1 READ
                ask 0 {0,1} NONE = 3
                change -1 4 = index
                change 2 4 = index
                change MIN 4 = index
                change MAX 4 = index
                change 0 4 = 1
                change 1 8 = 0
                ask 0 {0,1} NONE = 12
                """);
        Run.due("change, number: 0 to 255", """
                files 7
                parties 1 READ
                change 0 0 = 0
                ask 0 {0} NONE = 0
                change 0 -1 = argument
                change 0 256 = argument
                change 0 MIN = argument
                change 0 MAX = argument
                ask 0 {0} NONE = 0
                change 0 255 = 2
                ask 0 {0} NONE = 255
                """);
    }

    private static void promise4Party() {
        Run.due("party, budget: 0 to 128", """
                party 0 = 0
                party 128 = 1
                party -1 = argument
                party 129 = argument
                party MIN = argument
                party MAX = argument
                budget 0 1 = 0
                budget 1 1 = 128
                """);
    }

    private static void promise5Budget() {
        Run.due("budget, party: the number of a party", """
                party 3
                party 4
                budget -1 5 = index
                budget 2 5 = index
                budget MIN 5 = index
                budget MAX 5 = index
                budget 0 5 = 3
                budget 1 5 = 4
                """);
        Run.due("budget, budget: 0 to 128", """
                party 3
                budget 0 0 = 3
                budget 0 128 = 0
                budget 0 -1 = argument
                budget 0 129 = argument
                budget 0 MIN = argument
                budget 0 MAX = argument
                budget 0 0 = 128
                """);
    }

    private static void promise6RightOfWhomToWhat() {
        Run.due("right, party: the number of a party", """
                files 1
                party 9
                party 9
                right -1 0 ASK 0 9 = index
                right 2 0 ASK 0 9 = index
                right MIN 0 ASK 0 9 = index
                right MAX 0 ASK 0 9 = index
                right 0 0 ASK 0 9
                right 1 0 READ 0 9
                rightTo 0 0 = ASK
                rightTo 1 0 = READ
                """);
        Run.due("right, file: the number of a file", """
                files 1 2
                party 9
                right 0 -1 ASK 0 9 = index
                right 0 2 ASK 0 9 = index
                right 0 MIN ASK 0 9 = index
                right 0 MAX ASK 0 9 = index
                right 0 0 ASK 0 9
                right 0 1 READ 0 9
                rightTo 0 0 = ASK
                rightTo 0 1 = READ
                """);
        Run.due("right, right: ASK or READ", """
                files 1
                party 9
                right 0 0 NOTHING 0 9 = argument
                right 0 0 3 0 9 = argument
                right 0 0 ASK 0 9
                rightTo 0 0 = 1
                right 0 0 READ 0 9
                rightTo 0 0 = 2
                right 0 0 NOTHING 0 9 = argument   # it is no way to take a right back
                right 0 0 3 0 9 = argument
                right 0 0 -1 0 9 = argument
                right 0 0 MIN 0 9 = argument
                right 0 0 MAX 0 9 = argument
                rightTo 0 0 = 2
                """);
    }

    private static void promise6RightAndItsHours() {
        Run.due("right, from: 0 to 5000", """
                files 1
                party 9
                right 0 0 ASK -1 9 = argument
                right 0 0 ASK 5001 5001 = argument
                right 0 0 ASK MIN 9 = argument
                right 0 0 ASK MAX MAX = argument
                right 0 0 ASK 0 9
                rightTo 0 0 = ASK
                right 0 0 READ 5000 5000
                rightTo 0 0 = NOTHING
                10 times pass 500
                rightTo 0 0 = READ
                """);
        Run.due("right, to: from to 5000", """
                files 1
                party 9
                right 0 0 ASK 0 -1 = argument
                right 0 0 ASK 1 0 = argument
                right 0 0 ASK 5000 4999 = argument
                right 0 0 ASK 0 5001 = argument
                right 0 0 ASK 5000 5001 = argument
                right 0 0 ASK 0 MIN = argument
                right 0 0 ASK 0 MAX = argument
                right 0 0 ASK 0 0
                rightTo 0 0 = ASK
                right 0 0 READ 1 1
                pass 1
                rightTo 0 0 = READ
                right 0 0 ASK 1 5000
                pass 499
                9 times pass 500
                rightTo 0 0 = ASK
                """);
    }

    private static void promise7TakeBack() {
        Run.due("takeBack, party: the number of a party", """
                files 1
                parties 2 READ
                ask 0 {0} 0
                ask 1 {0} 0
                takeBack -1 0 = index
                takeBack 2 0 = index
                takeBack MIN 0 = index
                takeBack MAX 0 = index
                takeBack 0 0 = 1
                takeBack 1 0 = 1
                """);
        Run.due("takeBack, file: the number of a file", """
                files 1 2
                parties 1 READ
                ask 0 {0} 0
                ask 0 {1} 0
                takeBack 0 -1 = index
                takeBack 0 2 = index
                takeBack 0 MIN = index
                takeBack 0 MAX = index
                takeBack 0 0 = 1
                takeBack 0 1 = 1
                """);
    }

    private static void promise8Seal() {
        Run.due("seal, file: the number of a file", """
                files 1 2
                seal -1 5 = index
                seal 2 5 = index
                seal MIN 5 = index
                seal MAX 5 = index
                isSealed 0 = false
                seal 0 5
                isSealed 0 = true
                isSealed 1 = false
                seal 1 5
                isSealed 1 = true
                """);
        Run.due("seal, till: 0 to 5000", """
                files 1 2
                seal 0 -1 = argument
                seal 0 5001 = argument
                seal 0 MIN = argument
                seal 0 MAX = argument
                isSealed 0 = false
                seal 0 0
                isSealed 0 = true
                seal 0 -1 = argument
                isSealed 0 = true
                seal 1 5000
                10 times pass 500
                isSealed 0 = false
                isSealed 1 = true
                """);
    }

    private static void promise9Pass() {
        Run.due("pass, hours: 1 to 500", """
                pass 0 = argument
                pass -1 = argument
                pass 501 = argument
                pass MIN = argument
                pass MAX = argument
                pass 1 = 1
                pass 500 = 501
                """);
    }

    private static void promise10Ask() {
        Run.due("ask, party: the number of a party", """
                files 1
                parties 2 READ
                ask -1 {0} 0 = index
                ask 2 {0} 0 = index
                ask MIN {0} 0 = index
                ask MAX {0} 0 = index
                ask 0 {0} 0 = 1
                ask 1 {0} 0 = 1
                """);
        Run.due("ask, files: a set of files, not empty", """
                files 1 2 4
                parties 1 READ
                ask 0 0 NONE = argument
                ask 0 8 NONE = argument
                ask 0 {0,3} NONE = argument      # one that there is not, beside one that there is
                ask 0 {0,30} NONE = argument
                ask 0 -1 NONE = argument
                ask 0 MIN NONE = argument
                ask 0 MAX NONE = argument
                ask 0 1 NONE = 1
                ask 0 4 NONE = 4
                ask 0 7 NONE = 7
                """);
        Run.due("ask, bit: 0 to 7, 0 for the lowest; or NONE, for all", """
                files 1 128
                parties 1 READ
                ask 0 {0} -2 = argument
                ask 0 {0} 8 = argument
                ask 0 {0} MIN = argument
                ask 0 {0} MAX = argument
                ask 0 {0} 0 = 1
                ask 0 {1} 0 = 0
                ask 0 {0} 7 = 0
                ask 0 {1} 7 = 1
                ask 0 {0} NONE = 1
                ask 0 {1} -1 = 128
                """);
    }

    private static void promise11Cost() {
        Run.due("cost, party: the number of a party", """
                files 1
                parties 2 READ
                cost -1 {0} 0 = index
                cost 2 {0} 0 = index
                cost MIN {0} 0 = index
                cost MAX {0} 0 = index
                cost 0 {0} 0 = 1
                cost 1 {0} 0 = 1
                """);
        Run.due("cost, files: a set of files, not empty", """
                files 1 2 4
                parties 1 READ
                cost 0 0 NONE = argument
                cost 0 8 NONE = argument
                cost 0 {0,3} NONE = argument
                cost 0 {0,30} NONE = argument
                cost 0 -1 NONE = argument
                cost 0 MIN NONE = argument
                cost 0 MAX NONE = argument
                cost 0 1 NONE = 8
                cost 0 7 NONE = 8
                """);
        Run.due("cost, bit: 0 to 7, or NONE, for all", """
                files 1
                parties 1 READ
                cost 0 {0} -2 = argument
                cost 0 {0} 8 = argument
                cost 0 {0} MIN = argument
                cost 0 {0} MAX = argument
                cost 0 {0} 0 = 1
                cost 0 {0} 7 = 1
                cost 0 {0} NONE = 8
                ask 0 {0} 7
                cost 0 {0} 7 = 0
                cost 0 {0} 0 = 1
                cost 0 {0} NONE = 7
                """);
    }

    private static void promise12Answer() {
        Run.due("answer, answer: the number of an answer", """
                files 1
                parties 2 READ
                answer 0 0 = index               # there is none yet
                ask 0 {0} 0 = 1
                ask 1 {0} 0 = 1
                answer -1 0 = index
                answer 2 0 = index
                answer MIN 0 = index
                answer MAX 0 = index
                answer 0 0 = 0
                answer 1 0 = 1
                """);
        Run.due("answer, what: 0 the party to 5 the hour", """
                files 1 6
                party 0
                parties 1 READ
                pass 9
                ask 1 {0,1} NONE = 7
                answer 0 -1 = argument
                answer 0 6 = argument
                answer 0 MIN = argument
                answer 0 MAX = argument
                told 0 = 1 3 NONE 7 0 9
                """);
    }

    private static void promises13And14Spent() {
        Run.due("spent, party: the number of a party", """
                files 1
                parties 2 READ
                ask 0 {0} NONE
                ask 1 {0} 0
                spent -1 = index
                spent 2 = index
                spent MIN = index
                spent MAX = index
                spent 0 = 8
                spent 1 = 1
                """);
        Run.due("spentAnew, party: the number of a party", """
                files 1
                parties 2 READ
                ask 0 {0} NONE
                ask 1 {0} 0
                spentAnew -1 = index
                spentAnew 2 = index
                spentAnew MIN = index
                spentAnew MAX = index
                spentAnew 0 = 8
                spentAnew 1 = 1
                """);
    }

    private static void promises15And17FindsAndRightTo() {
        for (String call : new String[] {"finds", "rightTo"}) {
            Run.due(call + ", party and file: the number of a party, of a file", """
                    files 1 2
                    parties 2 READ
                    right 1 1 ASK 0 0
                    ask 0 {0} 1                  # to the one call the party 0 answers 2, as to the other
                    ask 0 {1} 1
                    ask 1 {0} 1
                    ask 1 {0,1} 0
                    CALL -1 0 = index
                    CALL 2 0 = index
                    CALL MIN 0 = index
                    CALL MAX 0 = index
                    CALL 0 -1 = index
                    CALL 0 2 = index
                    CALL 0 MIN = index
                    CALL 0 MAX = index
                    CALL -1 -1 = index
                    CALL 2 2 = index
                    CALL 0 0 = 2
                    CALL 0 1 = 2
                    CALL 1 0 = 2
                    """.replace("CALL", call));
        }
    }

    private static void promise16Together() {
        Run.due("together, parties: a set of parties, that of 0 lowest", """
                files 1 2
                parties 2 READ
                ask 0 {0} 0
                ask 1 {0} 1
                together -1 0 = argument
                together {2} 0 = argument
                together {0,2} 0 = argument      # one that there is not, beside one that there is
                together {1,30} 0 = argument
                together MIN 0 = argument
                together MAX 0 = argument
                together 0 0 = 0
                together {0} 0 = 1
                together {1} 0 = 2
                together {0,1} 0 = 3
                """);
        Run.due("together, file: the number of a file", """
                files 1 2
                parties 1 READ
                ask 0 {0} 0
                ask 0 {1} 1
                together {0} -1 = index
                together {0} 2 = index
                together {0} MIN = index
                together {0} MAX = index
                together {0} 0 = 1
                together {0} 1 = 2
                """);
    }

    private static void promise18IsSealed() {
        Run.due("isSealed, file: the number of a file", """
                files 1 2
                seal 0 0
                isSealed -1 = index
                isSealed 2 = index
                isSealed MIN = index
                isSealed MAX = index
                isSealed 0 = true
                isSealed 1 = false
                """);
    }

    private static void promise19Count() {
        Run.due("count, party: the number of a party", """
                files 1
                parties 2 READ
                ask 0 {0} 0
                ask 1 {0} 0
                ask 1 {0} 0
                count -1 0 = index
                count 2 0 = index
                count MIN 0 = index
                count MAX 0 = index
                count 0 0 = 1
                count 1 0 = 2
                """);
        Run.due("count, what: 0 those that were answered to 5 the answers that are not recalled", """
                files 1 2
                parties 1 READ
                ask 0 {0} 0 = 1
                ask 0 {1} 0 = 0
                ask 0 {0,1} 0 = 1
                takeBack 0 1 = 2
                ask 0 {1} 0 = NO_RIGHT
                count 0 -1 = argument
                count 0 6 = argument
                count 0 MIN = argument
                count 0 MAX = argument
                counts 0 = 3 1 0 0 0 1
                """);
    }
}
