import java.util.ArrayList;
import java.util.HashSet;
import java.util.List;
import java.util.Set;

/** The document's words in their plainest form, for comparison: all that is known is found anew at every call. */
final class PlainRoom {
    private record Told(int party, int files, int bit, int given, int hour) {
    }

    private record Grant(int right, int from, int to) {
    }

    private final List<Integer> numbers = new ArrayList<>();
    private final List<Integer> seals = new ArrayList<>();
    private final List<Integer> budgets = new ArrayList<>();
    private final Grant[][] grants = new Grant[6][16];
    private final int[][] refused = new int[6][5];
    private final List<Told> answers = new ArrayList<>();
    private final Set<Integer> recalled = new HashSet<>();
    private int now = 0;

    int file(int number) {
        argument(number >= 0 && number <= 255);
        state(numbers.size() < 16);
        numbers.add(number);
        seals.add(-1);
        return numbers.size() - 1;
    }

    int change(int file, int number) {
        index(file, numbers);
        argument(number >= 0 && number <= 255);
        numbers.set(file, number);
        int sum = 0;
        for (int p = 0; p < budgets.size(); p++) {
            sum += recall(p, file);
        }
        return sum;
    }

    int party(int budget) {
        argument(budget >= 0 && budget <= 128);
        state(budgets.size() < 6);
        budgets.add(budget);
        return budgets.size() - 1;
    }

    int budget(int party, int budget) {
        index(party, budgets);
        argument(budget >= 0 && budget <= 128);
        return budgets.set(party, budget);
    }

    void right(int party, int file, int right, int from, int to) {
        index(party, budgets);
        index(file, numbers);
        argument(right == 1 || right == 2);
        argument(from >= 0 && from <= 5000 && to >= from && to <= 5000);
        grants[party][file] = new Grant(right, from, to);
    }

    int takeBack(int party, int file) {
        index(party, budgets);
        index(file, numbers);
        boolean had = grants[party][file] != null;
        grants[party][file] = null;
        return had ? recall(party, file) : 0;
    }

    void seal(int file, int till) {
        index(file, numbers);
        argument(till >= 0 && till <= 5000);
        seals.set(file, till);
    }

    int pass(int hours) {
        argument(hours >= 1 && hours <= 500);
        state(now + hours <= 5000);
        now += hours;
        return now;
    }

    int ask(int party, int files, int bit) {
        index(party, budgets);
        question(files, bit);
        state(answers.size() < 150);
        int why = refusal(party, files, bit);
        if (why != 0) {
            refused[party][-why]++;
            return why;
        }
        int sum = 0;
        for (int f = 0; f < numbers.size(); f++) {
            sum ^= (files >> f) % 2 == 1 ? numbers.get(f) : 0;
        }
        int given = bit == -1 ? sum : (sum >> bit) % 2;
        answers.add(new Told(party, files, bit, given, now));
        return given;
    }

    int cost(int party, int files, int bit) {
        index(party, budgets);
        question(files, bit);
        return spentWith(party, files, bit) - spentWith(party, 0, -1);
    }

    int answer(int answer, int what) {
        index(answer, answers);
        argument(what >= 0 && what <= 5);
        Told a = answers.get(answer);
        int[] row = {a.party, a.files, a.bit, a.given, recalled.contains(answer) ? 1 : 0, a.hour};
        return row[what];
    }

    int spent(int party) {
        index(party, budgets);
        return spentWith(party, 0, -1);
    }

    int finds(int party, int file) {
        index(party, budgets);
        index(file, numbers);
        return found(1 << party, file, 0, -1);
    }

    int together(int parties, int file) {
        index(file, numbers);
        argument(parties >= 0 && parties < 1 << budgets.size());
        return found(parties, file, 0, -1);
    }

    int rightTo(int party, int file) {
        index(party, budgets);
        index(file, numbers);
        Grant grant = grants[party][file];
        return grant != null && grant.from <= now && now <= grant.to ? grant.right : 0;
    }

    boolean isSealed(int file) {
        index(file, numbers);
        return seals.get(file) >= now;
    }

    int count(int party, int what) {
        index(party, budgets);
        argument(what >= 0 && what <= 5);
        if (what >= 1 && what <= 4) {
            return refused[party][what];
        }
        int sum = 0;
        for (int a = 0; a < answers.size(); a++) {
            boolean counted = what == 0 || !recalled.contains(a);
            sum += answers.get(a).party == party && counted ? 1 : 0;
        }
        return sum;
    }

    private int refusal(int party, int files, int bit) {
        for (int f = 0; f < numbers.size(); f++) {
            if ((files >> f) % 2 == 1 && rightTo(party, f) == 0) {
                return -1;
            }
        }
        for (int f = 0; f < numbers.size(); f++) {
            if ((files >> f) % 2 == 1 && isSealed(f)) {
                return -2;
            }
        }
        for (int f = 0; f < numbers.size(); f++) {
            int ahead = found(1 << party, f, 0, -1);
            int behind = found(1 << party, f, files, bit);
            if ((behind & ~ahead) != 0 && rightTo(party, f) != 2) {
                return -3;
            }
        }
        return spentWith(party, files, bit) > budgets.get(party) ? -4 : 0;
    }

    /** What some parties know of a bit, and with one question (files, asked) more. */
    private Set<Integer> known(int parties, int bit, int files, int asked) {
        Set<Integer> known = new HashSet<>(List.of(0));
        for (int a = 0; a < answers.size(); a++) {
            Told told = answers.get(a);
            boolean of = (parties >> told.party) % 2 == 1 && (told.bit == -1 || told.bit == bit);
            if (of && !recalled.contains(a)) {
                close(known, told.files);
            }
        }
        if (asked == -1 || asked == bit) {
            close(known, files);
        }
        return known;
    }

    private static void close(Set<Integer> known, int set) {
        if (!known.contains(set)) {
            for (int other : new ArrayList<>(known)) {
                known.add(other ^ set);
            }
        }
    }

    private int spentWith(int party, int files, int asked) {
        int sum = 0;
        for (int bit = 0; bit < 8; bit++) {
            sum += Integer.numberOfTrailingZeros(known(1 << party, bit, files, asked).size());
        }
        return sum;
    }

    private int found(int parties, int file, int files, int asked) {
        int found = 0;
        for (int bit = 0; bit < 8; bit++) {
            found |= known(parties, bit, files, asked).contains(1 << file) ? 1 << bit : 0;
        }
        return found;
    }

    private int recall(int party, int file) {
        int sum = 0;
        for (int a = 0; a < answers.size(); a++) {
            Told told = answers.get(a);
            boolean of = told.party == party && (told.files >> file) % 2 == 1;
            sum += of && recalled.add(a) ? 1 : 0;
        }
        return sum;
    }

    private void question(int files, int bit) {
        argument(files >= 1 && files < 1 << numbers.size());
        argument(bit >= -1 && bit <= 7);
    }

    private static void index(int index, List<?> list) {
        if (index < 0 || index >= list.size()) {
            throw new IndexOutOfBoundsException();
        }
    }

    private static void argument(boolean fits) {
        if (!fits) {
            throw new IllegalArgumentException();
        }
    }

    private static void state(boolean fits) {
        if (!fits) {
            throw new IllegalStateException();
        }
    }
}
