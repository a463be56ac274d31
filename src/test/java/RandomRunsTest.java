import java.util.Random;

/** Runs of 512 calls, ordinary and wild, on the program and on the model: all answers are alike. */
public final class RandomRunsTest {
    private static final int RUNS = 1500;
    private static final int CALLS = 512;
    /** The most calls that next() makes beside those that say a text. */
    private static final int MOST_AT_ONCE = 4;
    private static final int[] WILD = {-1, -2, -6, 4, 7, 8, 60, 61, 120, 255, Integer.MIN_VALUE, Integer.MAX_VALUE};

    private final Random random;
    private final Due due;
    private final LaceWorks x = new LaceWorks();
    private final Model m = new Model();
    private final StringBuilder log = new StringBuilder();
    private int calls = 0;

    private RandomRunsTest(long seed, Due due) {
        random = new Random(seed);
        this.due = due;
    }

    public static void main(String[] args) {
        Due due = new Due();
        for (int seed = 0; seed < RUNS && due.wrong() == 0; seed++) {
            RandomRunsTest run = new RandomRunsTest(seed, due);
            try {
                while (run.calls + MOST_AT_ONCE <= CALLS && due.wrong() == 0) {
                    run.next();
                }
            } catch (RuntimeException thrown) {
                thrown.printStackTrace(System.out);
                due.fail("seed " + seed + " threw " + thrown);
            }
            if (due.wrong() != 0) {
                System.out.println("seed " + seed + ":" + run.log);
            }
        }
        due.end();
    }

    private void check(String call, int got, int want) {
        calls++;
        log.append(' ').append(call);
        due.is(call, got, want);
    }

    private int number(int below) {
        if (random.nextInt(25) == 0) {
            return WILD[random.nextInt(WILD.length)];
        }
        return random.nextInt(below);
    }

    private String text(int depth) {
        StringBuilder s = new StringBuilder();
        int parts = random.nextInt(depth == 0 ? 8 : 4);
        for (int i = 0; i < parts; i++) {
            int kind = random.nextInt(10);
            if (kind < 5) {
                s.append("CDTUP".charAt(random.nextInt(5)));
            } else if (kind < 8) {
                s.append(random.nextInt(3));
            } else if (depth < 3 || random.nextInt(20) == 0) {
                s.append('(').append(text(depth + 1)).append(')').append(1 + random.nextInt(random.nextInt(9) + 1));
            }
        }
        return s.toString();
    }

    private String spoiled(String s) {
        StringBuilder t = new StringBuilder(s);
        String signs = "CDTUP0123456789()()()!~cX";
        int spot = random.nextInt(t.length() + 1);
        char sign = signs.charAt(random.nextInt(signs.length()));
        if (spot == t.length() || random.nextBoolean()) {
            t.insert(spot, sign);
        } else if (random.nextBoolean()) {
            t.setCharAt(spot, sign);
        } else {
            t.deleteCharAt(spot);
        }
        return t.toString();
    }

    private void sayText() {
        String s = text(0);
        if (random.nextInt(4) == 0) {
            s = spoiled(s);
        }
        // What an object answers beyond its calls is free, so no run goes beyond them.
        int room = CALLS - calls - MOST_AT_ONCE;
        for (char c : s.substring(0, Math.min(s.length(), room)).toCharArray()) {
            check("say('" + c + "')", x.say(c), m.say(c));
        }
        if (random.nextInt(6) == 0) {
            int wild = number(200);
            check("say(" + wild + ")", x.say(wild), m.say(wild));
        }
        check("fault()", x.fault(), m.fault());
        int w = number(4);
        check("work(" + w + ")", x.work(w), m.work(w));
        if (random.nextInt(3) != 0) {
            check("wipe()", x.wipe(), m.wipe());
        }
    }

    private void next() {
        int a = number(4), b = number(4), c = number(4);
        switch (random.nextInt(20)) {
            case 0, 1 -> sayText();
            case 2 -> check("join(" + a + "," + b + "," + c + ")", x.join(a, b, c), m.join(a, b, c));
            case 3 -> check("undone(" + a + "," + b + ")", x.undone(a, b), m.undone(a, b));
            case 4 -> {
                int k = number(2);
                check("image(" + k + ")", x.image(k), m.image(k));
            }
            case 5 -> {
                int k = number(2);
                check("restore(" + k + ")", x.restore(k), m.restore(k));
            }
            case 6 -> check("count(" + a + ")", x.count(a), m.count(a));
            case 7 -> check("part(" + a + ")", x.part(a), m.part(a));
            case 8, 9 -> check("same(" + a + "," + b + ")", x.same(a, b), m.same(a, b));
            default -> ask(a);
        }
    }

    private void ask(int w) {
        int i = number(new int[] {12, 63, 122}[random.nextInt(3)]) - 1;
        switch (random.nextInt(8)) {
            case 0 -> {
                int what = number(2);
                check("step(" + w + "," + i + "," + what + ")", x.step(w, i, what), m.step(w, i, what));
            }
            case 1 -> check("written(" + w + "," + i + ")", x.written(w, i), m.written(w, i));
            case 2 -> {
                int place = number(8);
                check("at(" + w + "," + i + "," + place + ")", x.at(w, i, place), m.at(w, i, place));
            }
            case 3 -> {
                int one = number(8), other = number(8), what = number(3);
                check("met(" + w + "," + one + "," + other + "," + what + ")", x.met(w, one, other, what),
                    m.met(w, one, other, what));
            }
            case 4 -> {
                int what = number(6);
                check("told(" + w + "," + what + ")", x.told(w, what), m.told(w, what));
            }
            case 5 -> {
                int n = number(5), what = number(4);
                check("pin(" + w + "," + n + "," + what + ")", x.pin(w, n, what), m.pin(w, n, what));
            }
            case 6 -> check("letter(" + w + "," + i + ")", x.letter(w, i), m.letter(w, i));
            default -> check("shortest(" + w + "," + i + ")", x.shortest(w, i), m.shortest(w, i));
        }
    }
}
