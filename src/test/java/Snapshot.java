import java.util.LinkedHashMap;
import java.util.Map;

/** All that a book answers about its state but its FINDINGS. The book is spent: asking takes its last answers away. */
final class Snapshot {
    private static final int[] PLACES = {-20, -7, 0, 6, 20};

    private Snapshot() {
    }

    static Map<String, Long> of(BathBook x) {
        Map<String, Long> answers = new LinkedHashMap<>();
        answers.put("asked()", x.asked());
        answers.put("upper()", x.upper());
        answers.put("lower()", x.lower());
        answers.put("digest()", x.digest());
        answers.put("open()", (long) x.open());
        putCurves(x, answers);
        putRings(x, answers);
        return answers;
    }

    private static void putCurves(BathBook x, Map<String, Long> answers) {
        for (int table = 0; table < 4; table++) {
            for (int place : PLACES) {
                String call = "curve(" + table + ", " + place + ")";
                answers.put(call, (long) x.curve(table, place));
                answers.put(call + " upper()", x.upper());
                answers.put(call + " lower()", x.lower());
            }
            answers.put("clear(" + table + ")", (long) x.clear(table));
        }
    }

    private static void putRings(BathBook x, Map<String, Long> answers) {
        for (int a = 0; a < 6; a++) {
            for (int b = a + 1; b < 6; b++) {
                for (int c = b + 1; c < 6; c++) {
                    String call = "closes(" + a + ", " + b + ", " + c + ")";
                    answers.put(call, (long) x.closes(a, b, c));
                    answers.put(call + " asked()", x.asked());
                }
            }
        }
    }
}
