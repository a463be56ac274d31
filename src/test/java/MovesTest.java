import java.util.ArrayDeque;
import java.util.ArrayList;
import java.util.Deque;
import java.util.HashMap;
import java.util.List;
import java.util.Map;
import java.util.Random;

/**
 * THE SHORT FORM and the SAME against the words of the document: all rows that LETTERS become by MOVES
 * are made, one MOVE after another. (Rows never grow beyond two more LETTERS than the WORK has here.)
 */
public final class MovesTest {
    private static final int LIMIT = 40_000;
    private static final Due due = new Due();
    private static final Talk talk = new Talk(due);

    public static void main(String[] args) {
        Random random = new Random(7);
        for (int i = 0; i < 400; i++) {
            tryOne(shortText(random), shortText(random));
            String one = shortText(random);
            tryOne(one, varied(one, random));
        }
        due.end();
    }

    private static String shortText(Random random) {
        StringBuilder s = new StringBuilder();
        int signs = random.nextInt(5);
        for (int i = 0; i < signs; i++) {
            s.append(random.nextInt(3)).append("CDTUP".charAt(random.nextInt(5)));
        }
        return s.toString();
    }

    /** Two STEPS change places, or a pair of opposites comes: often, but not always, the SAME. */
    private static String varied(String text, Random random) {
        int i = 2 * random.nextInt(text.length() / 2 + 1);
        if (i + 4 <= text.length()) {
            return text.substring(0, i) + text.substring(i + 2, i + 4) + text.substring(i, i + 2) + text.substring(i + 4);
        }
        int spot = random.nextInt(3);
        return text.substring(0, i) + spot + "C" + spot + "D" + text.substring(i);
    }

    private static void tryOne(String one, String other) {
        LaceWorks x = new LaceWorks();
        talk.put(x, 0, one);
        talk.put(x, 1, other);
        List<Integer> first = letters(x, 0);
        List<Integer> second = letters(x, 1);
        if (first.size() > 5 || second.size() > 5) {
            return;
        }
        Map<List<Integer>, Boolean> rows = rowsByMoves(first, Math.max(first.size(), second.size()) + (first.size() < 4 ? 2 : 0));
        List<Integer> best = best(rows);
        due.is(one + ": shortest(0, -1)", x.shortest(0, -1), best.size());
        for (int i = 0; i < best.size(); i++) {
            due.is(one + ": shortest(0, " + i + ")", x.shortest(0, i), best.get(i));
        }
        if (rows.size() < LIMIT) {
            due.is(one + " same " + other, x.same(0, 1), rows.containsKey(second) ? 1 : 0);
        }
        talk.put(x, 2, one);
        x.undone(3, 2);
        x.join(2, 2, 3);
        due.is(one + " and undone: shortest", x.shortest(2, -1), 0);
    }

    private static List<Integer> letters(LaceWorks x, int work) {
        List<Integer> row = new ArrayList<>();
        for (int i = 0; i < x.letter(work, -1); i++) {
            row.add(x.letter(work, i));
        }
        return row;
    }

    private static Map<List<Integer>, Boolean> rowsByMoves(List<Integer> from, int longest) {
        Map<List<Integer>, Boolean> seen = new HashMap<>();
        Deque<List<Integer>> open = new ArrayDeque<>();
        seen.put(from, true);
        open.add(from);
        while (!open.isEmpty() && seen.size() < LIMIT) {
            for (List<Integer> row : oneMove(open.remove(), longest)) {
                if (seen.put(row, true) == null) {
                    open.add(row);
                }
            }
        }
        return seen;
    }

    private static List<List<Integer>> oneMove(List<Integer> row, int longest) {
        List<List<Integer>> all = new ArrayList<>();
        for (int i = 0; i + 1 < row.size(); i++) {
            int a = row.get(i), b = row.get(i + 1);
            List<Integer> then = new ArrayList<>(row);
            if (Math.abs(a / 10 - b / 10) >= 2) {
                then.set(i, b);
                then.set(i + 1, a);
                all.add(then);
            } else if (a / 10 == b / 10 && a != b) {
                then.subList(i, i + 2).clear();
                all.add(then);
            }
        }
        for (int i = 0; i <= row.size() && row.size() + 2 <= longest; i++) {
            for (int place = 0; place < 7; place++) {
                for (int over = 0; over < 2; over++) {
                    List<Integer> then = new ArrayList<>(row);
                    then.addAll(i, List.of(10 * place + over, 10 * place + 1 - over));
                    all.add(then);
                }
            }
        }
        return all;
    }

    private static List<Integer> best(Map<List<Integer>, Boolean> rows) {
        List<Integer> best = null;
        for (List<Integer> row : rows.keySet()) {
            if (best == null || row.size() < best.size() || row.size() == best.size() && isAhead(row, best)) {
                best = row;
            }
        }
        return best;
    }

    private static boolean isAhead(List<Integer> row, List<Integer> other) {
        for (int i = 0; i < row.size(); i++) {
            if (!row.get(i).equals(other.get(i))) {
                return row.get(i) < other.get(i);
            }
        }
        return false;
    }
}
