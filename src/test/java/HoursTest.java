/** The hours of rights and seals: the first and the last, the one before and the one behind; and the last of all. */
public final class HoursTest {
    public static void main(String[] args) {
        hoursOfRights();
        hoursOfReadAlone();
        rightsAtTheEnds();
        laterRights();
        rightsToTakeBack();
        hoursOfSeals();
        laterSeals();
        sealsAndRights();
        lastHour();
        hoursOfAnswers();
        Check.end();
    }

    private static void hoursOfRights() {
        for (String right : new String[] {"ASK", "READ"}) {
            Run.due("a right to " + right + ", from an hour to another one, both counted", """
                    files 1 1
                    parties 1 READ
                    right 0 0 KIND 3 5
                    rightTo 0 0 = NOTHING
                    ask 0 {0,1} 0 = NO_RIGHT
                    pass 2
                    rightTo 0 0 = NOTHING        # the hour before the first
                    ask 0 {0,1} 0 = NO_RIGHT
                    pass 1
                    rightTo 0 0 = KIND          # the first
                    ask 0 {0,1} 0 = 0
                    pass 1
                    rightTo 0 0 = KIND
                    ask 0 {0,1} 0 = 0
                    pass 1
                    rightTo 0 0 = KIND          # the last
                    ask 0 {0,1} 0 = 0
                    pass 1
                    rightTo 0 0 = NOTHING        # the hour behind the last
                    ask 0 {0,1} 0 = NO_RIGHT
                    counts 0 = 3 3 0 0 0 3
                    """.replace("KIND", right));
        }
        Run.due("a right of one hour, from it to it", """
                files 1
                parties 1 READ
                right 0 0 READ 2 2
                pass 1
                ask 0 {0} 0 = NO_RIGHT
                pass 1
                ask 0 {0} 0 = 1
                pass 1
                ask 0 {0} 0 = NO_RIGHT
                """);
    }

    private static void hoursOfReadAlone() {
        Run.due("no right to READ, now: by the hours of the right to a file that is not of the set", """
                files 1 1
                parties 1 READ
                ask 0 {0,1} NONE
                right 0 1 READ 2 3
                pass 1
                ask 0 {0} 0 = TELLS              # the hour before the first
                pass 1
                ask 0 {0} 0 = 1                  # the first
                pass 1
                ask 0 {0} 1 = 0                  # the last
                pass 1
                ask 0 {0} 2 = TELLS              # the hour behind the last
                ask 0 {0} 1 = 0
                counts 0 = 4 0 0 2 0 4
                """);
    }

    private static void rightsAtTheEnds() {
        Run.due("a right of the hour 0 alone", """
                files 1
                parties 1 READ
                right 0 0 READ 0 0
                ask 0 {0} 0 = 1
                pass 1
                rightTo 0 0 = NOTHING
                ask 0 {0} 0 = NO_RIGHT
                """);
        Run.due("rights of the hour 5000 alone, and till the hour before it", """
                files 1 1
                parties 1 READ
                right 0 0 READ 5000 5000
                right 0 1 READ 0 4999
                9 times pass 500
                pass 499
                ask 0 {0} 0 = NO_RIGHT
                ask 0 {1} 0 = 1
                pass 1
                ask 0 {0} 0 = 1
                ask 0 {1} 0 = NO_RIGHT
                """);
    }

    private static void laterRights() {
        Run.due("a later right takes the place of the one before, also a lesser one", """
                files 1
                parties 1 READ
                right 0 0 ASK 0 5000
                rightTo 0 0 = ASK
                ask 0 {0} 0 = TELLS
                right 0 0 READ 0 5000
                rightTo 0 0 = READ
                ask 0 {0} 0 = 1
                """);
        Run.due("a later right takes the place of the one before, also in the hours that it lacks", """
                files 1
                parties 1 READ
                right 0 0 READ 2 2
                rightTo 0 0 = NOTHING
                pass 1
                right 0 0 READ 0 0
                rightTo 0 0 = NOTHING
                pass 1
                rightTo 0 0 = NOTHING
                right 0 0 ASK 2 2
                rightTo 0 0 = ASK
                """);
        Run.due("a later right takes no place but its own, and recalls nothing", """
                files 1 1
                parties 2 READ
                ask 0 {0} 0
                right 0 0 ASK 7 9
                rightTo 0 1 = READ
                rightTo 1 0 = READ
                answer 0 4 = 0
                finds 0 0 = 1
                """);
    }

    private static void rightsToTakeBack() {
        Run.due("Takes a right back, if it has one, now: its first and its last hour", """
                files 1 1
                parties 1 READ
                ask 0 {0} 0
                ask 0 {1} 0
                right 0 0 READ 2 9
                right 0 1 READ 0 2
                pass 2
                takeBack 0 0 = 1
                takeBack 0 1 = 1
                """);
        Run.due("Takes a right back, if it has one in other hours: to come, and over", """
                files 1 1
                parties 1 READ
                ask 0 {0} 0
                ask 0 {1} 0
                right 0 0 READ 2 2
                right 0 1 READ 0 0
                pass 1
                takeBack 0 0 = 1
                takeBack 0 1 = 1
                pass 1
                rightTo 0 0 = NOTHING            # it does not come any more
                """);
        Run.due("otherwise nothing is recalled: without a right, with one taken back, and twice the same", """
                files 1 1
                parties 1 READ
                file 1
                ask 0 {0,1} 0
                takeBack 0 2 = 0
                takeBack 0 0 = 1
                takeBack 0 0 = 0
                takeBack 0 1 = 0                 # it has this one, but what it would recall is recalled
                rightTo 0 1 = NOTHING
                """);
    }

    private static void hoursOfSeals() {
        Run.due("A file may be sealed till an hour, that with it", """
                files 1 1
                parties 1 READ
                seal 0 3
                isSealed 0 = true
                ask 0 {0,1} 0 = SEALED
                pass 2
                isSealed 0 = true                # the hour before the last
                ask 0 {0,1} 0 = SEALED
                pass 1
                isSealed 0 = true                # the last
                ask 0 {0,1} 0 = SEALED
                pass 1
                isSealed 0 = false               # the hour behind it
                ask 0 {0,1} 0 = 0
                counts 0 = 1 0 3 0 0 1
                """);
        Run.due("a seal till the hour 0", """
                files 1
                seal 0 0
                isSealed 0 = true
                pass 1
                isSealed 0 = false
                """);
        Run.due("seals till the hour 5000, and till the one before", """
                files 1 1
                seal 0 5000
                seal 1 4999
                9 times pass 500
                pass 499
                isSealed 0 = true
                isSealed 1 = true
                pass 1
                isSealed 0 = true
                isSealed 1 = false
                """);
        Run.due("a file that was not sealed is not, in the hour 0", """
                files 1
                isSealed 0 = false
                """);
    }

    private static void laterSeals() {
        Run.due("a later seal takes the place of the one before, a shorter one and a longer one", """
                files 1 1
                seal 0 9
                seal 0 1
                seal 1 1
                seal 1 9
                pass 1
                isSealed 0 = true
                isSealed 1 = true
                pass 1
                isSealed 0 = false
                isSealed 1 = true
                """);
        Run.due("till: one behind which now is ends the seal; one of just now does not", """
                files 1 1 1
                pass 4
                seal 0 9
                seal 1 9
                seal 0 3
                seal 1 4
                isSealed 0 = false
                isSealed 1 = true
                seal 2 3                         # no seal was there to end
                isSealed 2 = false
                pass 1
                isSealed 1 = false
                """);
        Run.due("a file is sealed anew behind its seal", """
                files 1
                seal 0 0
                pass 1
                isSealed 0 = false
                seal 0 1
                isSealed 0 = true
                """);
    }

    private static void sealsAndRights() {
        Run.due("a seal changes no right, no cost and nothing known", """
                files 1
                parties 1 READ
                ask 0 {0} 0
                seal 0 9
                rightTo 0 0 = READ
                cost 0 {0} NONE = 7
                finds 0 0 = 1
                together {0} 0 = 1
                spent 0 = 1
                change 0 2 = 1
                takeBack 0 0 = 0
                rightTo 0 0 = NOTHING
                isSealed 0 = true
                """);
    }

    private static void lastHour() {
        Run.due("pass: now may be 5000, not above", """
                9 times pass 500
                pass 500 = 5000
                pass 1 = state
                pass 500 = state
                """);
        Run.due("pass: an hour at a time up to 5000, and not behind it", """
                9 times pass 500
                pass 498 = 4998
                pass 3 = state
                pass 1 = 4999
                pass 2 = state
                pass 1 = 5000
                pass 1 = state
                """);
        Run.due("pass: from 4501 on not 500 hours more", """
                pass 1 = 1
                9 times pass 500
                pass 500 = state
                pass 499 = 5000
                """);
    }

    private static void hoursOfAnswers() {
        Run.due("answer, 5 the hour: that in which it was given, the first and the last", """
                files 1
                parties 1 READ
                ask 0 {0} 0
                pass 1
                ask 0 {0} 0
                pass 499
                9 times pass 500
                ask 0 {0} 0
                answer 0 5 = 0
                answer 1 5 = 1
                answer 2 5 = 5000
                """);
    }
}
