import java.util.ArrayList;
import java.util.List;

/**
 * The document again, by the plainest means and without regard for time: texts are rewritten as texts,
 * a STEP is its figure and its sign, LETTERS are moved one by one.
 */
final class Model {
    static final int UNKNOWN = -1, OUTSIDE = -2, STATE = -3, FULL = -4, NONE = -6, FAULT = -7;

    private String pad = "";
    private List<List<String>> works = new ArrayList<>();
    private final List<List<List<String>>> images = new ArrayList<>();
    private int toldFault = NONE;

    Model() {
        for (int i = 0; i < 4; i++) {
            works.add(List.of());
        }
        images.add(null);
        images.add(null);
    }

    private static boolean noWork(int w) {
        return w < 0 || w > 3;
    }

    int say(int sign) {
        if (sign < 33 || sign > 126) return OUTSIDE;
        if (pad.length() == 40) return FULL;
        pad += (char) sign;
        return pad.length();
    }

    int wipe() {
        int n = pad.length();
        pad = "";
        return n;
    }

    private static boolean isText(String s) {
        for (int depth = 0; depth < 3; depth++) {
            s = s.replaceAll("\\([CDTUP012]*\\)[1-9]", "P");
        }
        return s.matches("[CDTUP012]*");
    }

    /** Whether something can be put behind it so that it is a TEXT. */
    private static boolean canGoOn(String s) {
        for (String figure : List.of("", "1")) {
            for (int ends = 0; ends <= 3; ends++) {
                if (isText(s + figure + ")1".repeat(ends))) return true;
            }
        }
        return false;
    }

    int fault() {
        for (int i = 0; i < pad.length(); i++) {
            if (!canGoOn(pad.substring(0, i + 1))) return i;
        }
        return isText(pad) ? NONE : pad.length();
    }

    private static String withoutParts(String s) {
        while (s.indexOf(')') >= 0) {
            int close = s.indexOf(')');
            int open = s.lastIndexOf('(', close);
            String inner = s.substring(open + 1, close);
            s = s.substring(0, open) + inner.repeat(s.charAt(close + 1) - '0') + s.substring(close + 2);
        }
        return s;
    }

    private static List<String> stepsOf(String text) {
        List<String> steps = new ArrayList<>();
        char spot = '0';
        for (char c : withoutParts(text).toCharArray()) {
            if (Character.isDigit(c)) spot = c;
            else steps.add("" + spot + c);
        }
        return steps;
    }

    private void set(int w, List<String> steps) {
        works = new ArrayList<>(works);
        works.set(w, List.copyOf(steps));
    }

    int work(int w) {
        if (noWork(w)) return UNKNOWN;
        if (fault() != NONE) {
            toldFault = fault();
            return FAULT;
        }
        List<String> steps = stepsOf(pad);
        if (steps.size() > 60) return FULL;
        set(w, steps);
        pad = "";
        return steps.size();
    }

    int join(int to, int a, int b) {
        if (noWork(to) || noWork(a) || noWork(b)) return UNKNOWN;
        List<String> all = new ArrayList<>(works.get(a));
        all.addAll(works.get(b));
        if (all.size() > 60) return FULL;
        set(to, all);
        return all.size();
    }

    int undone(int to, int from) {
        if (noWork(to) || noWork(from)) return UNKNOWN;
        List<String> back = new ArrayList<>();
        for (String s : works.get(from)) {
            back.add(0, "" + s.charAt(0) + "DCUTP".charAt("CDTUP".indexOf(s.charAt(1))));
        }
        set(to, back);
        return back.size();
    }

    int step(int w, int i, int what) {
        if (noWork(w)) return UNKNOWN;
        if (i < -1 || what < 0 || what > 1) return OUTSIDE;
        if (i == -1) return works.get(w).size();
        if (i >= works.get(w).size()) return NONE;
        String s = works.get(w).get(i);
        return what == 1 ? s.charAt(0) - '0' : "CDTUP".indexOf(s.charAt(1));
    }

    int written(int w, int k) {
        if (noWork(w)) return UNKNOWN;
        if (k < -1) return OUTSIDE;
        String all = "";
        char last = ' ';
        for (String s : works.get(w)) {
            all += s.charAt(0) == last ? s.substring(1) : s;
            last = s.charAt(0);
        }
        if (k == -1) return all.length();
        return k < all.length() ? all.charAt(k) : NONE;
    }

    /** A change of places: with which STEP, at which PLACE, which BOBBIN was left and right, who went over. */
    record Change(int step, int place, int left, int right, boolean rightOver) {
        int letter() {
            return 10 * place + (rightOver ? 1 : 0);
        }

        int over() {
            return rightOver ? right : left;
        }
    }

    private static List<Change> changes(List<String> steps, List<Integer> lie) {
        lie.clear();
        lie.addAll(List.of(0, 1, 2, 3, 4, 5, 6, 7));
        List<Change> all = new ArrayList<>();
        for (int i = 0; i < steps.size(); i++) {
            int spot = steps.get(i).charAt(0) - '0';
            int[] at = switch (steps.get(i).charAt(1)) {
                case 'C', 'D' -> new int[] {2 * spot + 1};
                case 'T', 'U' -> new int[] {2 * spot, 2 * spot + 2};
                default -> new int[0];
            };
            boolean rightOver = "DT".indexOf(steps.get(i).charAt(1)) >= 0;
            for (int p : at) {
                all.add(new Change(i, p, lie.get(p), lie.get(p + 1), rightOver));
                lie.set(p, lie.set(p + 1, lie.get(p)));
            }
        }
        return all;
    }

    int at(int w, int i, int place) {
        if (noWork(w)) return UNKNOWN;
        if (i < 0 || i > works.get(w).size() || place < 0 || place > 7) return OUTSIDE;
        List<Integer> lie = new ArrayList<>();
        changes(works.get(w).subList(0, i), lie);
        return lie.get(place);
    }

    int met(int w, int one, int other, int what) {
        if (noWork(w)) return UNKNOWN;
        if (one < 0 || one > 7 || other < 0 || other > 7 || one == other || what < 0 || what > 2) return OUTSIDE;
        int all = 0;
        int over = 0;
        int first = NONE;
        for (Change c : changes(works.get(w), new ArrayList<>())) {
            if (List.of(c.left, c.right).contains(one) && List.of(c.left, c.right).contains(other)) {
                all++;
                if (c.over() == one) over++;
                if (first == NONE) first = c.step;
            }
        }
        return new int[] {all, over, first}[what];
    }

    int told(int w, int what) {
        if (noWork(w)) return UNKNOWN;
        List<String> steps = works.get(w);
        List<Integer> lie = new ArrayList<>();
        List<Change> changes = changes(steps, lie);
        switch (what) {
            case 0: return steps.size();
            case 1: return changes.size();
            case 2: return (int) steps.stream().filter(s -> s.endsWith("P")).count();
            case 3: {
                List<String> again = new ArrayList<>(steps);
                for (int n = 1; ; n++) {
                    changes(again, lie);
                    if (lie.equals(List.of(0, 1, 2, 3, 4, 5, 6, 7))) return n;
                    again.addAll(steps);
                }
            }
            case 4: {
                int n = 0;
                for (int p = 0; p < 8; p++) if (lie.get(p) == p) n++;
                return n;
            }
            case 5: {
                int set = 255;
                for (Change c : changes) set &= ~(1 << c.left) & ~(1 << c.right);
                return set;
            }
            default: return OUTSIDE;
        }
    }

    int pin(int w, int i, int what) {
        if (noWork(w)) return UNKNOWN;
        if (what < 0 || what > 3) return OUTSIDE;
        List<Integer> pins = new ArrayList<>();
        for (int k = 0; k < works.get(w).size(); k++) if (works.get(w).get(k).endsWith("P")) pins.add(k);
        if (i < 0 || i >= pins.size()) return NONE;
        int spot = works.get(w).get(pins.get(i)).charAt(0) - '0';
        return switch (what) {
            case 0 -> pins.get(i);
            case 1 -> spot;
            default -> at(w, pins.get(i), 2 * spot + what - 1);
        };
    }

    private List<Integer> letters(int w) {
        List<Integer> all = new ArrayList<>();
        for (Change c : changes(works.get(w), new ArrayList<>())) all.add(c.letter());
        return all;
    }

    private static int item(List<Integer> row, int i) {
        if (i == -1) return row.size();
        return i < row.size() ? row.get(i) : NONE;
    }

    int letter(int w, int i) {
        if (noWork(w)) return UNKNOWN;
        return i < -1 ? OUTSIDE : item(letters(w), i);
    }

    static boolean canPass(int one, int other) {
        return Math.abs(one / 10 - other / 10) >= 2;
    }

    private static boolean dropOnePair(List<Integer> row) {
        for (int i = 0; i < row.size(); i++) {
            for (int j = i + 1; j < row.size(); j++) {
                if (row.get(i) / 10 == row.get(j) / 10 && !row.get(i).equals(row.get(j))) {
                    row.remove(j);
                    row.remove(i);
                    return true;
                }
                if (!canPass(row.get(i), row.get(j))) break;
            }
        }
        return false;
    }

    static List<Integer> shortForm(List<Integer> letters) {
        List<Integer> row = new ArrayList<>(letters);
        while (dropOnePair(row)) {
        }
        List<Integer> result = new ArrayList<>();
        while (!row.isEmpty()) {
            int best = 0;
            for (int i = 1; i < row.size(); i++) {
                int letter = row.get(i);
                if (letter < row.get(best) && row.subList(0, i).stream().allMatch(x -> canPass(x, letter))) best = i;
            }
            result.add(row.remove(best));
        }
        return result;
    }

    int shortest(int w, int i) {
        if (noWork(w)) return UNKNOWN;
        return i < -1 ? OUTSIDE : item(shortForm(letters(w)), i);
    }

    int same(int one, int other) {
        if (noWork(one) || noWork(other)) return UNKNOWN;
        return shortForm(letters(one)).equals(shortForm(letters(other))) ? 1 : 0;
    }

    int part(int w) {
        if (noWork(w)) return UNKNOWN;
        List<String> steps = works.get(w);
        for (int n = 1; n <= steps.size(); n++) {
            List<String> made = new ArrayList<>();
            while (made.size() < steps.size()) made.addAll(steps.subList(0, n));
            if (made.equals(steps)) return n;
        }
        return 0;
    }

    int image(int k) {
        if (k < 0 || k > 1) return OUTSIDE;
        images.set(k, works);
        return 1;
    }

    int restore(int k) {
        if (k < 0 || k > 1) return OUTSIDE;
        if (images.get(k) == null) return STATE;
        works = images.get(k);
        return 1;
    }

    int count(int what) {
        return switch (what) {
            case 0 -> pad.length();
            case 1 -> works.stream().mapToInt(List::size).sum();
            case 2 -> toldFault;
            case 3 -> (images.get(0) == null ? 0 : 1) + (images.get(1) == null ? 0 : 2);
            default -> OUTSIDE;
        };
    }
}
