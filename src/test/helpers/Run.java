import java.util.ArrayList;
import java.util.List;
import java.util.Map;

/**
 * Runs of calls, each on a new object, written as text: "put(0, 8) = 1; put(0, 8) = STATE". A call that is written
 * without an answer may answer anything, but may not throw. All answers have to stay as they were when a call throws.
 * The model is told the same, so that a due answer stands on two readings of the document.
 */
public final class Run {
    private static final int MOST_CALLS = 512;
    private static final Map<String, Long> NAMED = Map.of("INDEX", Check.INDEX, "ARGUMENT", Check.ARGUMENT, "STATE",
        Check.STATE, "NONE", -1L, "UNKNOWN", 0L, "OPEN", 1L, "DROPPED", 2L, "BAKED", 3L, "true", 1L, "false", 0L);

    private final String sentence;
    private final List<Call> calls = new ArrayList<>();
    // null where any answer but an exception is due
    private final List<Long> dues = new ArrayList<>();

    private Run(String sentence, String rows) {
        this.sentence = sentence;
        for (String row : rows.split(";")) {
            if (!row.isBlank()) {
                read(row.trim());
            }
        }
        if (calls.size() > MOST_CALLS) {
            throw new IllegalArgumentException("more than 512 calls: " + sentence);
        }
    }

    /** Checks one run, which shows a sentence of the document; its rows may hold several calls each. */
    public static void of(String sentence, String... rows) {
        Run run = new Run(sentence, String.join(";", rows));
        run.play("", new FridgeGossip());
        run.play("the model: ", new Model());
        run.checkThrowing();
    }

    /** The row so many times. */
    public static String times(int times, String row) {
        return (row + ";").repeat(times);
    }

    /** The row for each number from first to last, which stands in it for each %d. */
    public static String each(int first, int last, String row) {
        StringBuilder rows = new StringBuilder();
        for (int i = first; i <= last; i++) {
            rows.append(with(i, row)).append(';');
        }
        return rows.toString();
    }

    /** The row with this number for each %d. */
    public static String with(int number, String row) {
        return row.replace("%d", Integer.toString(number));
    }

    private void read(String row) {
        int sign = row.indexOf('=');
        calls.add(Call.read(sign < 0 ? row : row.substring(0, sign).trim()));
        String due = sign < 0 ? "" : row.substring(sign + 1).trim();
        dues.add(sign < 0 ? null : NAMED.containsKey(due) ? NAMED.get(due) : Long.valueOf(due));
    }

    private void play(String who, Object x) {
        for (int i = 0; i < calls.size(); i++) {
            long got = calls.get(i).answer(x);
            String what = who + sentence + ": call " + (i + 1) + ", " + calls.get(i);
            if (dues.get(i) != null) {
                Check.due(what, got, dues.get(i));
            } else {
                Check.due(what + ", throws", Check.isThrown(got), false);
            }
        }
    }

    private void checkThrowing() {
        Answers before = null;
        for (int i = 0; i < calls.size(); i++) {
            if (dues.get(i) == null || !Check.isThrown(dues.get(i))) {
                before = null;
                continue;
            }
            if (before == null) {
                before = new Answers(calls.subList(0, i));
            }
            Answers after = new Answers(calls.subList(0, i + 1));
            Check.due(sentence + ": after call " + (i + 1) + ", " + calls.get(i), after.differenceFrom(before), "");
        }
    }
}
