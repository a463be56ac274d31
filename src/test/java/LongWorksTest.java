import java.util.ArrayList;
import java.util.List;
import java.util.Random;

/** WORKS of up to 60 STEPS, asked whole, from the first STEP, sign, LETTER or PIN to one behind the last. */
public final class LongWorksTest {
    private static final int WORKS = 200;
    private static final int MOST_SIGNS = 40;
    private static final Due due = new Due();

    private final LaceWorks x = new LaceWorks();
    private final Model m = new Model();
    private final String name;
    private final int steps;

    /** WORK 0 is what both texts tell, one behind the other, WORK 1 what the second one tells, WORK 2 is WORK 0 undone. */
    private LongWorksTest(String first, String second) {
        name = first + " " + second + ": ";
        put(0, first);
        put(1, second);
        is("join(0, 0, 1)", x.join(0, 0, 1), m.join(0, 0, 1));
        is("undone(2, 0)", x.undone(2, 0), m.undone(2, 0));
        steps = m.step(0, -1, 0);
    }

    public static void main(String[] args) {
        Random random = new Random(60);
        int longest = 0;
        for (int n = 0; n < WORKS; n++) {
            // The first two tell 30 STEPS each: 60 are the most.
            String first = n == 0 ? "(C1TP0)9UUU" : text(random);
            String second = n == 0 ? "2(TD1C)9PPP" : text(random);
            // Each asks on an object of its own, so that none is asked more than its 512 calls.
            new LongWorksTest(first, second).askLetters();
            new LongWorksTest(first, second).askSteps();
            new LongWorksTest(first, second).askBobbins(random);
            LongWorksTest last = new LongWorksTest(first, second);
            last.askPins();
            longest = Math.max(longest, last.steps);
        }
        due.is("the longest WORK", longest, 60);
        due.end();
    }

    /** Few signs of many, so that now much goes by MOVES, now nothing, now one PART comes again. */
    private static String text(Random random) {
        String[] kinds = {"CDTUP012", "CCDTTU0P", "TU012", "CD012", "CT1P", "C0C1C2D", "PPPC01"};
        String signs = kinds[random.nextInt(kinds.length)];
        int size = 25 + random.nextInt(MOST_SIGNS - 25 - 3);
        StringBuilder s = new StringBuilder();
        for (int i = 0; i < size; i++) {
            s.append(signs.charAt(random.nextInt(signs.length())));
        }
        int open = random.nextInt(size - 5);
        return s.insert(open, '(').insert(open + 5, ")" + (1 + random.nextInt(3))).toString();
    }

    private void is(String call, int got, int want) {
        due.is(name + call, got, want);
    }

    private void put(int work, String text) {
        for (char c : text.toCharArray()) {
            is("say(" + c + ")", x.say(c), m.say(c));
        }
        is("work(" + work + ")", x.work(work), m.work(work));
    }

    private void askLetters() {
        int size = m.letter(0, -1);
        List<Integer> letters = new ArrayList<>();
        for (int i = -1; i <= size; i++) {
            is("letter(0, " + i + ")", x.letter(0, i), m.letter(0, i));
            if (i >= 0 && i < size) {
                letters.add(m.letter(0, i));
            }
        }
        List<Integer> shortForm = Model.shortForm(letters);
        is("shortest(0, -1)", x.shortest(0, -1), shortForm.size());
        for (int i = 0; i <= shortForm.size(); i++) {
            is("shortest(0, " + i + ")", x.shortest(0, i), i < shortForm.size() ? shortForm.get(i) : Model.NONE);
        }
        for (int one = 0; one < 4; one++) {
            for (int other = 0; other < 4; other++) {
                is("same(" + one + ", " + other + ")", x.same(one, other), m.same(one, other));
            }
        }
    }

    private void askSteps() {
        for (int i = -1; i <= steps; i++) {
            is("step(0, " + i + ", 0)", x.step(0, i, 0), m.step(0, i, 0));
            is("step(0, " + i + ", 1)", x.step(0, i, 1), m.step(0, i, 1));
        }
        int signs = m.written(2, -1);
        for (int k = -1; k <= signs; k++) {
            is("written(2, " + k + ")", x.written(2, k), m.written(2, k));
        }
        for (int work = 0; work < 4; work++) {
            is("part(" + work + ")", x.part(work), m.part(work));
        }
        is("count(1)", x.count(1), m.count(1));
    }

    private void askBobbins(Random random) {
        for (int n = 0; n < 20; n++) {
            int i = n == 0 ? steps : random.nextInt(steps + 1);
            for (int place = 0; place < 8; place++) {
                is("at(0, " + i + ", " + place + ")", x.at(0, i, place), m.at(0, i, place));
            }
        }
        for (int pair = 0; pair < 64; pair++) {
            int one = pair / 8;
            int other = pair % 8;
            for (int what = 0; what < 3; what++) {
                is("met(0, " + one + ", " + other + ", " + what + ")", x.met(0, one, other, what), m.met(0, one, other, what));
            }
        }
        for (int what = 0; what < 6; what++) {
            is("told(0, " + what + ")", x.told(0, what), m.told(0, what));
        }
    }

    private void askPins() {
        int pins = m.told(0, 2);
        for (int i = 0; i <= pins; i++) {
            for (int what = 0; what < 4; what++) {
                is("pin(0, " + i + ", " + what + ")", x.pin(0, i, what), m.pin(0, i, what));
            }
        }
    }
}
