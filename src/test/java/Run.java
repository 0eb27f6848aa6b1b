import java.lang.reflect.InvocationTargetException;
import java.lang.reflect.Method;
import java.util.ArrayList;
import java.util.Arrays;
import java.util.List;
import java.util.Map;
import java.util.Set;
import java.util.TreeMap;
import java.util.TreeSet;

/**
 * Runs of calls told as texts, each run on a new room, a row for each call:
 * <pre>
 *   ask 0 {0,2} NONE = 6        what it answers, or else index, argument or state, the exception that it throws
 *   seal 0 5                    a call that throws nothing
 *   149 times ask 0 {0} 3 = 1   the same call again and again
 *   files 1 2 4                 files of these numbers
 *   parties 2 READ              parties of the budget 128, with this right to all files so far, in all hours
 *   counts 0 = 2 0 0 0 0 1      what count answers for 0 to 5
 *   told 0 = 1 3 NONE 207 0 0   what answer answers for 0 to 5
 * </pre>
 * A set of files or of parties is written {0,2} or {0-15}, or as its number. What follows a # is not read.
 */
final class Run {
    static final int MOST_CALLS = 512;

    private static final Map<String, Method> FACE = faceByName();
    private static final Map<String, Integer> WORDS = Map.ofEntries(
            Map.entry("NONE", -1), Map.entry("NOTHING", 0), Map.entry("ASK", 1), Map.entry("READ", 2),
            Map.entry("NO_RIGHT", -1), Map.entry("SEALED", -2), Map.entry("TELLS", -3), Map.entry("DEAR", -4),
            Map.entry("MIN", Integer.MIN_VALUE), Map.entry("MAX", Integer.MAX_VALUE));
    private static final Map<String, String> EXCEPTIONS = Map.of(
            "index", "IndexOutOfBoundsException",
            "argument", "IllegalArgumentException",
            "state", "IllegalStateException");

    /** Which call has thrown what, in all runs. */
    private static final Set<String> thrown = new TreeSet<>();

    /** A call with what is due of it, or null if anything but an exception is. */
    record Row(String name, Object[] args, String due) {
        String call() {
            List<String> told = new ArrayList<>();
            for (Object arg : args) {
                told.add(arg.toString());
            }
            return name + "(" + String.join(", ", told) + ")";
        }
    }

    private final String sentence;
    private final List<Row> rows = new ArrayList<>();
    /** The calls that changed, or could have changed, the room: all that threw nothing. */
    private final List<Row> taken = new ArrayList<>();
    private final Dataroom room = new Dataroom();
    private int filesTold;
    private int partiesTold;
    private int files;
    private int parties;
    private int answers;

    private Run(String sentence) {
        this.sentence = sentence;
    }

    /** The sentence holds in this run; returns of how many calls it is. */
    static int due(String sentence, String text) {
        Run run = new Run(sentence);
        for (String line : text.split("\n")) {
            run.read(line.replaceAll("#.*", "").trim());
        }
        Check.due(sentence + ": at most 512 calls", run.rows.size() <= MOST_CALLS, true);
        run.go();
        return run.rows.size();
    }

    /** Each exception of each throws clause of the face was thrown in some run. */
    static void dueAllThrown() {
        Set<String> clauses = new TreeSet<>();
        for (Method method : FACE.values()) {
            for (Class<?> exception : method.getExceptionTypes()) {
                clauses.add(method.getName() + " " + exception.getSimpleName());
            }
        }
        Check.due("the exceptions that the throws clauses name", thrown, clauses);
    }

    private static Map<String, Method> faceByName() {
        Map<String, Method> face = new TreeMap<>();
        for (Method method : Dataroom.class.getMethods()) {
            if (method.getDeclaringClass() == Dataroom.class) {
                face.put(method.getName(), method);
            }
        }
        return face;
    }

    // ---- reading

    private void read(String line) {
        if (line.isEmpty()) {
            return;
        }
        String[] sides = line.split(" = ");
        String[] words = sides[0].trim().split(" +");
        String due = sides.length > 1 ? sides[1].trim() : null;
        switch (words[0]) {
            case "files":
                for (int w = 1; w < words.length; w++) {
                    add(null, "file", number(words[w]));
                }
                break;
            case "parties":
                addParties(number(words[1]), number(words[2]));
                break;
            case "counts":
                addSix("count", number(words[1]), due);
                break;
            case "told":
                addSix("answer", number(words[1]), due);
                break;
            default:
                addCalls(words, due);
        }
    }

    private void addCalls(String[] words, String due) {
        boolean many = words.length > 1 && words[1].equals("times");
        int first = many ? 2 : 0;
        Integer[] args = new Integer[words.length - first - 1];
        for (int a = 0; a < args.length; a++) {
            args[a] = number(words[first + 1 + a]);
        }
        for (int i = 0; i < (many ? number(words[0]) : 1); i++) {
            add(due, words[first], args);
        }
    }

    private void add(String due, String name, Integer... args) {
        boolean holds = due == null || !EXCEPTIONS.containsKey(due);
        filesTold += holds && name.equals("file") ? 1 : 0;
        partiesTold += holds && name.equals("party") ? 1 : 0;
        rows.add(new Row(name, args, due));
    }

    private void addParties(int many, int right) {
        for (int i = 0; i < many; i++) {
            int p = partiesTold;
            add(null, "party", 128);
            for (int f = 0; f < filesTold; f++) {
                add(null, "right", p, f, right, 0, 5000);
            }
        }
    }

    private void addSix(String name, int of, String due) {
        String[] each = due.split(" +");
        Check.due(sentence + ": six told", each.length, 6);
        for (int what = 0; what < each.length; what++) {
            add(each[what], name, of, what);
        }
    }

    private static int number(String word) {
        return word.startsWith("{") ? set(word) : WORDS.containsKey(word) ? WORDS.get(word) : Integer.parseInt(word);
    }

    private static int set(String word) {
        int set = 0;
        for (String part : word.substring(1, word.length() - 1).split(",")) {
            String[] ends = part.split("-");
            for (int i = Integer.parseInt(ends[0]); i <= Integer.parseInt(ends[ends.length - 1]); i++) {
                set |= 1 << i;
            }
        }
        return set;
    }

    // ---- calling

    private void go() {
        for (int r = 0; r < rows.size(); r++) {
            Row row = rows.get(r);
            String got = outcome(room, row);
            String due = dueOf(row, got);
            Check.due(sentence + ": call " + (r + 1) + ", " + row.call(), got, due);
            if (EXCEPTIONS.containsValue(got)) {
                thrown.add(row.name + " " + got);
                dueUnchanged(row);
            } else {
                take(row, got);
            }
        }
    }

    private void take(Row row, String got) {
        taken.add(row);
        files += row.name.equals("file") ? 1 : 0;
        parties += row.name.equals("party") ? 1 : 0;
        answers += row.name.equals("ask") && !got.startsWith("-") ? 1 : 0;
    }

    private static String dueOf(Row row, String got) {
        if (row.due == null) {
            return got.endsWith("Exception") || got.endsWith("unasked") ? "nothing thrown" : got;
        }
        String exception = EXCEPTIONS.get(row.due);
        boolean told = exception != null || row.due.equals("true") || row.due.equals("false");
        return exception != null ? exception : told ? row.due : String.valueOf(number(row.due));
    }

    static String outcome(Dataroom room, Row row) {
        return Check.outcome(() -> answerOf(room, row));
    }

    private static Object answerOf(Dataroom room, Row row) {
        try {
            return FACE.get(row.name).invoke(room, row.args);
        } catch (InvocationTargetException e) {
            throw (RuntimeException) e.getCause();
        } catch (IllegalAccessException e) {
            throw new AssertionError(e);
        }
    }

    /** Whatever is asked behind the call that threw, a room without it answers the same. */
    private void dueUnchanged(Row row) {
        for (int kind = 0; kind < Probe.KINDS; kind++) {
            Dataroom with = roomBehindTaken();
            outcome(with, row);
            String[] got = probed(with, kind);
            String[] due = probed(roomBehindTaken(), kind);
            int first = Math.max(0, Arrays.mismatch(got, due));
            Check.due(sentence + ": behind " + row.call() + " that throws, " + kind + ", asked " + first,
                    first < got.length ? got[first] : "", first < due.length ? due[first] : "");
        }
    }

    private String[] probed(Dataroom any, int kind) {
        int left = MOST_CALLS - taken.size() - 1;
        return new Probe(any, files, parties, answers, left).tell(kind).split("; ");
    }

    private Dataroom roomBehindTaken() {
        Dataroom again = new Dataroom();
        for (Row row : taken) {
            outcome(again, row);
        }
        return again;
    }
}
