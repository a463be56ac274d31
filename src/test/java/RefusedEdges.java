import java.util.function.ToIntFunction;

/** What is refused changes nothing but the place of the FAULT: for each refusal of each call that could change something. */
final class RefusedEdges {
    private static final String CHANGES_NOTHING = "What is refused changes nothing but the place of the FAULT.";
    private static final String SIXTY = "((C)6)9(C)5T";

    private RefusedEdges() {
    }

    /** All kinds of state at once: a long WORK and short ones, a told FAULT, IMAGE 0 but not 1, signs on THE PAD. */
    private static LaceWorks busy(Talk t, String pad) {
        LaceWorks x = t.of("1U", "DD", "P");
        x.image(0);
        t.put(x, 0, SIXTY);
        t.put(x, 1, "C1T");
        t.put(x, 3, "2U");
        t.pad(x, "CC!");
        x.work(2);
        t.pad(x, pad);
        return x;
    }

    /** All that can be asked of the state; THE PAD's signs by the WORK that they tell behind this ending. */
    private static String state(Talk t, LaceWorks x, String ending) {
        StringBuilder s = new StringBuilder("counts");
        for (int what = 0; what <= 3; what++) {
            s.append(' ').append(x.count(what));
        }
        s.append(" fault ").append(x.fault());
        works(t, x, s);
        x.restore(0);
        works(t, x, s);
        t.sayAll(x, ending);
        return s.append(" pad ").append(x.work(3)).append(' ').append(t.script(x, 3)).toString();
    }

    private static void works(Talk t, LaceWorks x, StringBuilder s) {
        for (int work = 0; work < 4; work++) {
            s.append(' ').append(work).append(':').append(t.script(x, work));
        }
    }

    private static void changesNothing(Talk t, String pad, String ending, int answer, ToIntFunction<LaceWorks> call) {
        LaceWorks refused = busy(t, pad);
        t.is("answer", call.applyAsInt(refused), answer);
        t.is("state", state(t, refused, ending), state(t, busy(t, pad), ending));
    }

    private static void changesNothing(Talk t, int answer, ToIntFunction<LaceWorks> call) {
        changesNothing(t, "T1(D", ")2", answer, call);
    }

    @Edge(promise = 0, says = CHANGES_NOTHING)
    static void sayOutside(Talk t) {
        changesNothing(t, -2, x -> x.say(32));
        changesNothing(t, -2, x -> x.say(127));
    }

    @Edge(promise = 0, says = CHANGES_NOTHING)
    static void sayFull(Talk t) {
        changesNothing(t, "C1T2".repeat(10), "", -4, x -> x.say('P'));
    }

    @Edge(promise = 0, says = CHANGES_NOTHING)
    static void workUnknown(Talk t) {
        changesNothing(t, -1, x -> x.work(4));
        changesNothing(t, -1, x -> x.work(-1));
        changesNothing(t, "T1D", "", -1, x -> x.work(4));
    }

    @Edge(promise = 0, says = CHANGES_NOTHING)
    static void workFaultBesidesItsPlace(Talk t) {
        LaceWorks x = busy(t, "T1(D");
        t.is("the place before it", x.count(2), 2);
        t.is("work(0)", x.work(0), -7);
        t.is("the place of the FAULT alone changes", x.count(2), 4);
        t.is("state", state(t, x, ")2"), state(t, busy(t, "T1(D"), ")2").replace("counts 4 64 2 ", "counts 4 64 4 "));
    }

    @Edge(promise = 0, says = CHANGES_NOTHING)
    static void workFull(Talk t) {
        changesNothing(t, "2((CT)9)9", "", -4, x -> x.work(0));
        changesNothing(t, "2((CT)9)9", "", -4, x -> x.work(2));
    }

    /** Too much by one STEP only: the sixty that would have had room are not put anywhere. */
    @Edge(promise = 0, says = CHANGES_NOTHING)
    static void workFullByOne(Talk t) {
        changesNothing(t, "2((D)6)9(D)61P", "", -4, x -> x.work(0));
        changesNothing(t, "2((D)6)9(D)61P", "", -4, x -> x.work(1));
    }

    @Edge(promise = 0, says = CHANGES_NOTHING)
    static void joinUnknown(Talk t) {
        changesNothing(t, -1, x -> x.join(4, 1, 3));
        changesNothing(t, -1, x -> x.join(1, 4, 3));
        changesNothing(t, -1, x -> x.join(1, 3, 4));
        changesNothing(t, -1, x -> x.join(1, -1, -1));
    }

    @Edge(promise = 0, says = CHANGES_NOTHING)
    static void joinFull(Talk t) {
        changesNothing(t, -4, x -> x.join(1, 0, 1));
        changesNothing(t, -4, x -> x.join(0, 0, 3));
        changesNothing(t, -4, x -> x.join(0, 3, 0));
        changesNothing(t, -4, x -> x.join(2, 0, 0));
    }

    @Edge(promise = 0, says = CHANGES_NOTHING)
    static void undoneUnknown(Talk t) {
        changesNothing(t, -1, x -> x.undone(4, 0));
        changesNothing(t, -1, x -> x.undone(0, 4));
        changesNothing(t, -1, x -> x.undone(-1, 0));
        changesNothing(t, -1, x -> x.undone(0, -1));
    }

    @Edge(promise = 0, says = CHANGES_NOTHING)
    static void imageOutside(Talk t) {
        changesNothing(t, -2, x -> x.image(-1));
        changesNothing(t, -2, x -> x.image(2));
    }

    @Edge(promise = 0, says = CHANGES_NOTHING)
    static void restoreOutside(Talk t) {
        changesNothing(t, -2, x -> x.restore(-1));
        changesNothing(t, -2, x -> x.restore(2));
    }

    @Edge(promise = 0, says = CHANGES_NOTHING)
    static void restoreState(Talk t) {
        changesNothing(t, -3, x -> x.restore(1));
    }

    @Edge(promise = 0, says = CHANGES_NOTHING)
    static void askedOfNoWork(Talk t) {
        changesNothing(t, -1, x -> x.step(4, 0, 0));
        changesNothing(t, -1, x -> x.written(4, 0));
        changesNothing(t, -1, x -> x.at(4, 0, 0));
        changesNothing(t, -1, x -> x.met(4, 0, 1, 0));
        changesNothing(t, -1, x -> x.told(4, 0));
        changesNothing(t, -1, x -> x.pin(4, 0, 0));
        changesNothing(t, -1, x -> x.letter(4, 0));
        changesNothing(t, -1, x -> x.shortest(4, 0));
        changesNothing(t, -1, x -> x.same(4, 0));
        changesNothing(t, -1, x -> x.part(4));
    }

    @Edge(promise = 0, says = CHANGES_NOTHING)
    static void askedOutside(Talk t) {
        changesNothing(t, -2, x -> x.step(0, -2, 0));
        changesNothing(t, -2, x -> x.written(0, -2));
        changesNothing(t, -2, x -> x.at(0, 61, 0));
        changesNothing(t, -2, x -> x.met(0, 1, 1, 0));
        changesNothing(t, -2, x -> x.told(0, 6));
        changesNothing(t, -2, x -> x.pin(0, 0, 4));
        changesNothing(t, -2, x -> x.letter(0, -2));
        changesNothing(t, -2, x -> x.shortest(0, -2));
        changesNothing(t, -2, x -> x.count(4));
    }
}
