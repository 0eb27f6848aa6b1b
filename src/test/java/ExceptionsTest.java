/** Each exception of each throws clause by itself, and which one is thrown where several apply: that named first. */
public final class ExceptionsTest {
    public static void main(String[] args) {
        filesAndParties();
        rights();
        sealsAndHours();
        ask();
        askBehindTheLastAnswer();
        cost();
        whatIsAskedBesides();
        refusedCallsInARow();
        Run.dueAllThrown();
        Check.end();
    }

    private static void filesAndParties() {
        Run.due("file: out of range goes before 16 files", """
                file 256 = argument
                16 times file 0
                file 0 = state
                file 256 = argument
                file -1 = argument
                """);
        Run.due("change: no such file goes before out of range", """
                files 1
                change 0 256 = argument
                change 1 0 = index
                change 1 256 = index
                change -1 -1 = index
                """);
        Run.due("party: out of range goes before 6 parties", """
                party 129 = argument
                6 times party 0
                party 0 = state
                party 129 = argument
                party -1 = argument
                """);
        Run.due("budget: no such party goes before out of range", """
                party 7
                budget 0 129 = argument
                budget 1 0 = index
                budget 1 129 = index
                budget -1 -1 = index
                """);
    }

    private static void rights() {
        Run.due("right: no such party or file goes before each that is out of range", """
                files 1
                party 7
                right 0 0 0 0 9 = argument
                right 0 0 ASK -1 9 = argument
                right 0 0 ASK 0 5001 = argument
                right 1 0 ASK 0 9 = index
                right 0 1 ASK 0 9 = index
                right 1 1 ASK 0 9 = index
                right 1 0 0 0 9 = index
                right 0 1 3 0 9 = index
                right 1 0 ASK -1 9 = index
                right 0 1 ASK 5001 5001 = index
                right 1 0 ASK 0 5001 = index
                right 0 1 ASK 9 8 = index
                right -1 -1 0 -1 -2 = index
                """);
        Run.due("takeBack: no such party or file", """
                files 1
                parties 1 ASK
                takeBack 1 0 = index
                takeBack 0 1 = index
                takeBack 1 1 = index
                """);
    }

    private static void sealsAndHours() {
        Run.due("seal: no such file goes before out of range", """
                files 1
                seal 0 5001 = argument
                seal 1 0 = index
                seal 1 5001 = index
                seal -1 -1 = index
                """);
        Run.due("pass: out of range goes before now above 5000", """
                9 times pass 500
                pass 1
                pass 500 = state
                pass 501 = argument
                pass 0 = argument
                """);
    }

    private static void ask() {
        Run.due("ask: no such party goes before out of range", """
                files 1
                parties 1 READ
                ask 1 {0} 0 = index
                ask 1 0 0 = index
                ask 1 {1} 0 = index
                ask 1 {0} 8 = index
                ask -1 -1 -2 = index
                ask 0 0 0 = argument
                ask 0 {1} 0 = argument
                ask 0 {0} 8 = argument
                ask 0 0 8 = argument
                """);
        Run.due("ask: out of range goes before a refusal", """
                files 1 2
                party 0
                seal 0 9
                ask 0 {0} 0 = NO_RIGHT
                ask 0 {0,2} 0 = argument
                ask 0 {0} 8 = argument
                ask 0 0 NONE = argument
                counts 0 = 0 1 0 0 0 0
                """);
    }

    private static void askBehindTheLastAnswer() {
        Run.due("ask: no such party, then out of range go before 150 answers", """
                files 1
                parties 1 READ
                150 times ask 0 {0} 0
                ask 0 {0} 0 = state
                ask 0 0 0 = argument
                ask 0 {1} 0 = argument
                ask 0 {0} 8 = argument
                ask 0 {0} -2 = argument
                ask 1 {0} 0 = index
                ask -1 {0} 0 = index
                ask 1 0 0 = index
                ask 1 {0} 8 = index
                """);
        Run.due("cost: does not throw for 150 answers", """
                files 1
                parties 1 READ
                150 times ask 0 {0} 0
                cost 0 {0} 1 = 1
                cost 0 {1} 1 = argument
                cost 1 {0} 1 = index
                """);
    }

    private static void cost() {
        Run.due("cost: no such party goes before out of range", """
                files 1
                parties 1 READ
                cost 1 {0} 0 = index
                cost 1 0 0 = index
                cost 1 {1} 0 = index
                cost 1 {0} 8 = index
                cost -1 -1 -2 = index
                cost 0 0 0 = argument
                cost 0 {1} 0 = argument
                cost 0 {0} 8 = argument
                """);
    }

    private static void whatIsAskedBesides() {
        Run.due("answer: no such answer goes before out of range", """
                files 1
                parties 1 READ
                ask 0 {0} 0
                answer 0 6 = argument
                answer 1 0 = index
                answer 1 6 = index
                answer -1 -1 = index
                """);
        Run.due("spent, spentAnew, finds, rightTo, isSealed: no such party or file", """
                files 1
                parties 1 READ
                spent 1 = index
                spentAnew 1 = index
                finds 1 0 = index
                finds 0 1 = index
                finds 1 1 = index
                rightTo 1 0 = index
                rightTo 0 1 = index
                rightTo 1 1 = index
                isSealed 1 = index
                """);
        Run.due("together: no such file goes before parties that there are not", """
                files 1
                parties 1 READ
                together {1} 0 = argument
                together {0} 1 = index
                together {1} 1 = index
                together -1 -1 = index
                """);
        Run.due("count: no such party goes before out of range", """
                files 1
                parties 1 READ
                count 0 6 = argument
                count 1 0 = index
                count 1 6 = index
                count -1 -1 = index
                """);
    }

    private static void refusedCallsInARow() {
        Run.due("A call that throws an exception changes nothing: among answers, seals, hours and rights to come", """
                files 5 6 7
                parties 2 READ
                right 0 2 ASK 0 9
                right 1 2 READ 6 8
                seal 1 4
                ask 0 {0} NONE = 5
                ask 1 {0} 0 = 1
                ask 0 {1} 0 = SEALED
                ask 1 {2} 0 = NO_RIGHT
                ask 0 {2} 0 = TELLS
                budget 1 1 = 128
                ask 1 {0} 1 = DEAR
                pass 2 = 2
                file 256 = argument
                change 0 256 = argument
                change 3 1 = index
                party 129 = argument
                budget 0 129 = argument
                budget 2 1 = index
                right 0 0 3 0 9 = argument
                right 0 0 ASK 9 8 = argument
                right 0 0 ASK 0 5001 = argument
                right 0 3 ASK 0 9 = index
                takeBack 0 3 = index
                takeBack 2 0 = index
                seal 1 5001 = argument
                seal 3 1 = index
                pass 501 = argument
                ask 2 {0} 0 = index
                ask 0 {0} 8 = argument
                cost 0 {0} 8 = argument
                answer 2 0 = index
                answer 0 6 = argument
                spent 2 = index
                spentAnew 2 = index
                finds 0 3 = index
                together {2} 0 = argument
                rightTo 0 3 = index
                isSealed 3 = index
                count 0 6 = argument
                counts 0 = 1 0 1 1 0 1
                counts 1 = 1 1 0 0 1 1
                """);
        Run.due("A call that throws an exception changes nothing: with no file, party, or answer left to come", """
                16 times file 9
                parties 6 READ
                150 times ask 5 {0-15} 0
                10 times pass 500
                file 1 = state
                party 1 = state
                pass 1 = state
                ask 0 {0} 0 = state
                """);
    }
}
