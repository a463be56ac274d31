/** The edges of promises 1 to 9: a new object, THE PAD, WORKS put together, undone, told and written out. */
final class WorksEdges {
    private static final int MIN = Integer.MIN_VALUE, MAX = Integer.MAX_VALUE;
    private static final String SIXTY = "((C)6)9(C)6";
    private static final String THIRTY = "((C)5)6";

    private WorksEdges() {
    }

    // ---- promise 1

    @Edge(promise = 1, says = "WORKS without STEPS")
    static void newWorksAreEmpty(Talk t) {
        LaceWorks x = new LaceWorks();
        for (int work = 0; work < 4; work++) {
            t.is("step(" + work + ", -1, 0)", x.step(work, -1, 0), 0);
            t.is("step(" + work + ", 0, 0)", x.step(work, 0, 0), -6);
        }
        t.is("count(1)", x.count(1), 0);
    }

    @Edge(promise = 1, says = "THE PAD is empty")
    static void newPadIsEmpty(Talk t) {
        t.is("wipe()", new LaceWorks().wipe(), 0);
        t.is("count(0)", new LaceWorks().count(0), 0);
        t.is("the first say()", new LaceWorks().say('C'), 1);
    }

    @Edge(promise = 1, says = "no FAULT")
    static void newHasNoFault(Talk t) {
        LaceWorks x = new LaceWorks();
        t.is("count(2)", x.count(2), -6);
        t.is("fault()", x.fault(), -6);
    }

    @Edge(promise = 1, says = "no IMAGE.")
    static void newHasNoImage(Talk t) {
        LaceWorks x = new LaceWorks();
        t.is("count(3)", x.count(3), 0);
        t.is("restore(0)", x.restore(0), -3);
        t.is("restore(1)", x.restore(1), -3);
    }

    @Edge(promise = 1, says = "`LaceWorks()`")
    static void newBesideAnother(Talk t) {
        LaceWorks used = t.of("CT", "P");
        used.image(0);
        t.pad(used, "!");
        used.work(0);
        LaceWorks x = new LaceWorks();
        t.is("counts of the new one", x.count(0) + " " + x.count(1) + " " + x.count(2) + " " + x.count(3), "0 0 -6 0");
        x.say('C');
        x.work(0);
        t.is("the used one stays", t.script(used, 0), "0CT");
        t.is("its pad stays", used.count(0), 1);
    }

    // ---- promise 2

    @Edge(promise = 2, says = "A sign more on THE PAD: how many there are.")
    static void sayTellsHowMany(Talk t) {
        LaceWorks x = new LaceWorks();
        for (int i = 1; i <= 40; i++) {
            t.is("say, number " + i, x.say('C'), i);
            t.is("count(0)", x.count(0), i);
        }
    }

    @Edge(promise = 2, says = "OUTSIDE: it is not 33 to 126")
    static void sayTooSmall(Talk t) {
        LaceWorks x = new LaceWorks();
        for (int sign : new int[] {32, 31, 0, -1, -33, MIN, MIN + 67}) {
            t.is("say(" + sign + ")", x.say(sign), -2);
        }
        t.is("say(33)", x.say(33), 1);
    }

    @Edge(promise = 2, says = "OUTSIDE: it is not 33 to 126")
    static void sayTooLarge(Talk t) {
        LaceWorks x = new LaceWorks();
        for (int sign : new int[] {127, 128, 255, 256 + 67, 65536 + 67, MAX}) {
            t.is("say(" + sign + ")", x.say(sign), -2);
        }
        t.is("say(126)", x.say(126), 1);
    }

    /** A sign that can stand nowhere is said all the same. */
    @Edge(promise = 2, says = "OUTSIDE: it is not 33 to 126")
    static void sayEverySign(Talk t) {
        for (int sign = 33; sign <= 126; sign++) {
            t.is("say(" + sign + ")", new LaceWorks().say(sign), 1);
        }
    }

    @Edge(promise = 2, says = "FULL: there are 40.")
    static void sayOnAFullPad(Talk t) {
        LaceWorks x = new LaceWorks();
        t.pad(x, "C".repeat(39));
        t.is("the 40th", x.say('T'), 40);
        t.is("the 41st", x.say('P'), -4);
        t.is("the 41st again", x.say('P'), -4);
        t.is("count(0)", x.count(0), 40);
        t.is("work(0)", x.work(0), 40);
        t.is("the last STEP is the 40th sign", x.step(0, 39, 0), 2);
        t.is("say, behind work()", x.say('P'), 1);
    }

    @Edge(promise = 2, says = "FULL: there are 40.")
    static void sayAgainBehindWipe(Talk t) {
        LaceWorks x = new LaceWorks();
        t.pad(x, "C".repeat(40));
        x.wipe();
        t.is("say", x.say('C'), 1);
    }

    // ---- promise 3

    @Edge(promise = 3, says = "THE PAD is empty: how many signs it had.")
    static void wipeOfAnEmptyPad(Talk t) {
        LaceWorks x = new LaceWorks();
        t.is("wipe()", x.wipe(), 0);
        x.say('C');
        t.is("wipe() of one", x.wipe(), 1);
        t.is("wipe() again", x.wipe(), 0);
    }

    @Edge(promise = 3, says = "THE PAD is empty: how many signs it had.")
    static void wipeOfAFullPad(Talk t) {
        LaceWorks x = new LaceWorks();
        t.pad(x, "C".repeat(40));
        t.is("wipe()", x.wipe(), 40);
        t.is("count(0)", x.count(0), 0);
        t.is("fault()", x.fault(), -6);
        t.is("work(0): nothing", x.work(0), 0);
    }

    @Edge(promise = 3, says = "THE PAD is empty: how many signs it had.")
    static void wipeLeavesTheRest(Talk t) {
        LaceWorks x = t.of("CT");
        x.image(1);
        t.pad(x, "(");
        x.work(0);
        x.wipe();
        t.is("the WORK", t.script(x, 0), "0CT");
        t.is("the FAULT that work() told", x.count(2), 1);
        t.is("the IMAGES", x.count(3), 2);
    }

    // ---- promise 4

    @Edge(promise = 4, says = "THE FAULT of THE PAD as it is.")
    static void faultSignBySign(Talk t) {
        LaceWorks x = new LaceWorks();
        String signs = "C(T)2(1)(!";
        int[] want = {-6, 2, 3, 4, -6, 6, 7, 8, 8, 8};
        t.is("fault() of nothing", x.fault(), -6);
        for (int i = 0; i < want.length; i++) {
            x.say(signs.charAt(i));
            t.is("fault() of " + signs.substring(0, i + 1), x.fault(), want[i]);
        }
        x.wipe();
        t.is("fault() behind wipe()", x.fault(), -6);
    }

    @Edge(promise = 4, says = "THE FAULT of THE PAD as it is.")
    static void faultChangesNothing(Talk t) {
        LaceWorks x = new LaceWorks();
        t.pad(x, "C!");
        t.is("fault()", x.fault(), 1);
        t.is("fault() again", x.fault(), 1);
        t.is("count(0)", x.count(0), 2);
        t.is("count(2)", x.count(2), -6);
    }

    /** Not the FAULT that work() told last. */
    @Edge(promise = 4, says = "THE FAULT of THE PAD as it is.")
    static void faultBehindWork(Talk t) {
        LaceWorks x = new LaceWorks();
        t.pad(x, "CC!");
        x.work(0);
        t.pad(x, "C");
        t.is("fault()", x.fault(), -6);
        t.pad(x, "(");
        t.is("fault()", x.fault(), 1);
        t.is("count(2)", x.count(2), 2);
    }

    // ---- promise 5

    @Edge(promise = 5, says = "A WORK is what THE PAD tells, which is empty then: how many STEPS.")
    static void workEmptiesThePad(Talk t) {
        LaceWorks x = new LaceWorks();
        t.pad(x, "C1(TP)2");
        t.is("work(3)", x.work(3), 5);
        t.is("count(0)", x.count(0), 0);
        t.is("as written", t.script(x, 3), "0C1TPTP");
        t.is("work(3) of the empty pad", x.work(3), 0);
        t.is("in place of what it was", x.step(3, -1, 0), 0);
    }

    @Edge(promise = 5, says = "A WORK is what THE PAD tells, which is empty then: how many STEPS.")
    static void workInPlaceOfALongerOne(Talk t) {
        LaceWorks x = t.of(SIXTY);
        t.is("work(0)", t.put(x, 0, "2T"), 1);
        t.is("as written", t.script(x, 0), "2T");
        t.is("step(0, 1, 0)", x.step(0, 1, 0), -6);
    }

    @Edge(promise = 5, says = "UNKNOWN; FAULT; FULL: there would be more than 60.")
    static void workUnknown(Talk t) {
        LaceWorks x = new LaceWorks();
        for (int work : new int[] {-1, 4, MIN, MAX}) {
            t.pad(x, "C");
            t.is("work(" + work + ")", x.work(work), -1);
            t.is("the pad stays", x.count(0), 1);
        }
        t.is("work(0)", x.work(0), 1);
        t.is("work(3)", x.work(3), 0);
    }

    @Edge(promise = 5, says = "UNKNOWN; FAULT; FULL: there would be more than 60.")
    static void workFault(Talk t) {
        for (String signs : new String[] {"!", "(", "(C)", "(C)0", ")", "3", "((((", "C".repeat(39) + "("}) {
            LaceWorks x = t.of("T");
            t.pad(x, signs);
            t.is("work(0) of " + signs, x.work(0), -7);
            t.is("the pad stays", x.count(0), signs.length());
            t.is("the WORK stays", t.script(x, 0), "0T");
        }
    }

    @Edge(promise = 5, says = "FULL: there would be more than 60.")
    static void workOfSixty(Talk t) {
        for (String signs : new String[] {SIXTY, "(((C)3)4)5", "((CTDUP)6)2", "C".repeat(24) + "(T)9(P)9(U)9(D)9"}) {
            LaceWorks x = new LaceWorks();
            t.pad(x, signs);
            t.is("work(0) of " + signs, x.work(0), 60);
            t.is("the pad is empty", x.count(0), 0);
        }
    }

    @Edge(promise = 5, says = "FULL: there would be more than 60.")
    static void workOfSixtyOne(Talk t) {
        for (String signs : new String[] {SIXTY + "P", "P" + SIXTY, "((C)6P)8(T)5", "(((C)3)4)5D", "((C)6)9(C)7"}) {
            LaceWorks x = new LaceWorks();
            t.pad(x, signs);
            t.is("work(0) of " + signs, x.work(0), -4);
            t.is("the pad stays", x.count(0), signs.length());
            t.is("no STEP came", x.step(0, -1, 0), 0);
        }
    }

    @Edge(promise = 5, says = "FULL: there would be more than 60.")
    static void workByFarTooMany(Talk t) {
        LaceWorks x = new LaceWorks();
        t.pad(x, "(((" + "P".repeat(31) + ")9)9)9");
        t.is("work(0): 22599 STEPS", x.work(0), -4);
    }

    /** Figures and empty PARTS are no STEPS, however often they come. */
    @Edge(promise = 5, says = "FULL: there would be more than 60.")
    static void workOfSixtyAndManyFigures(Talk t) {
        LaceWorks x = new LaceWorks();
        t.pad(x, "(((012)9)9)9" + SIXTY + "((()9)9)9");
        t.is("work(0)", x.work(0), 60);
        t.pad(x, "(((" + "012".repeat(10) + "0)9)9)9");
        t.is("figures alone", x.work(0), 0);
    }

    // ---- promise 6

    @Edge(promise = 6, says = "A WORK is that of one, and behind it that of another one (all may be the same): how many STEPS.")
    static void joinInOrder(Talk t) {
        LaceWorks x = t.of("C1T", "2U");
        t.is("join(2, 0, 1)", x.join(2, 0, 1), 3);
        t.is("0, then 1", t.script(x, 2), "0C1T2U");
        t.is("join(3, 1, 0)", x.join(3, 1, 0), 3);
        t.is("1, then 0", t.script(x, 3), "2U0C1T");
        t.is("0 stays", t.script(x, 0), "0C1T");
        t.is("1 stays", t.script(x, 1), "2U");
    }

    @Edge(promise = 6, says = "(all may be the same)")
    static void joinToOneOfThem(Talk t) {
        LaceWorks x = t.of("C1T", "2U");
        t.is("join(0, 0, 1)", x.join(0, 0, 1), 3);
        t.is("to the first", t.script(x, 0), "0C1T2U");
        t.put(x, 0, "C1T");
        t.is("join(1, 0, 1)", x.join(1, 0, 1), 3);
        t.is("to the second", t.script(x, 1), "0C1T2U");
    }

    @Edge(promise = 6, says = "(all may be the same)")
    static void joinWithItself(Talk t) {
        LaceWorks x = t.of("C1T");
        t.is("join(1, 0, 0)", x.join(1, 0, 0), 4);
        t.is("to another one", t.script(x, 1), "0C1T0C1T");
        t.is("join(0, 0, 0)", x.join(0, 0, 0), 4);
        t.is("to itself", t.script(x, 0), "0C1T0C1T");
    }

    @Edge(promise = 6, says = "how many STEPS.")
    static void joinOfNothing(Talk t) {
        LaceWorks x = t.of("C1T", "");
        t.is("join(2, 0, 1)", x.join(2, 0, 1), 2);
        t.is("nothing behind it", t.script(x, 2), "0C1T");
        t.is("join(3, 1, 0)", x.join(3, 1, 0), 2);
        t.is("nothing ahead of it", t.script(x, 3), "0C1T");
        t.is("join(0, 1, 1)", x.join(0, 1, 1), 0);
        t.is("nothing at all", t.script(x, 0), "");
    }

    @Edge(promise = 6, says = "UNKNOWN: all three")
    static void joinUnknown(Talk t) {
        LaceWorks x = t.of("C", "T");
        for (int work : new int[] {-1, 4, MIN, MAX}) {
            t.is("join(" + work + ", 0, 1)", x.join(work, 0, 1), -1);
            t.is("join(0, " + work + ", 1)", x.join(0, work, 1), -1);
            t.is("join(0, 1, " + work + ")", x.join(0, 1, work), -1);
        }
        t.is("join(3, 3, 3)", x.join(3, 3, 3), 0);
    }

    @Edge(promise = 6, says = "FULL: there would be more than 60.")
    static void joinToSixty(Talk t) {
        LaceWorks x = t.of(THIRTY, SIXTY, "");
        t.is("30 and 30", x.join(3, 0, 0), 60);
        t.is("60 and none", x.join(3, 1, 2), 60);
        t.is("none and 60", x.join(3, 2, 1), 60);
        t.is("30 and 30 to itself", x.join(0, 0, 0), 60);
        t.is("the 60th", x.step(0, 59, 0), 0);
    }

    @Edge(promise = 6, says = "FULL: there would be more than 60.")
    static void joinToSixtyOne(Talk t) {
        LaceWorks x = t.of(THIRTY, THIRTY + "T", SIXTY, "P");
        t.is("30 and 31", x.join(3, 0, 1), -4);
        t.is("31 and 30", x.join(0, 1, 0), -4);
        t.is("60 and 1", x.join(3, 2, 3), -4);
        t.is("1 and 60", x.join(2, 3, 2), -4);
        t.is("60 and 60", x.join(2, 2, 2), -4);
        t.is("all stay", x.count(1), 30 + 31 + 60 + 1);
    }

    /** What the WORK had that is put in place of is no matter. */
    @Edge(promise = 6, says = "FULL: there would be more than 60.")
    static void joinInPlaceOfSixty(Talk t) {
        LaceWorks x = t.of(SIXTY, "T", "U");
        t.is("join(0, 1, 2)", x.join(0, 1, 2), 2);
        t.is("as written", t.script(x, 0), "0TU");
    }

    // ---- promise 7

    @Edge(promise = 7, says = "its STEPS from the last one back, C as D, D as C, T as U, U as T, P as P: how many STEPS.")
    static void undoneOfEachKind(Talk t) {
        LaceWorks x = t.of("C1D2T0U1P");
        t.is("undone(1, 0)", x.undone(1, 0), 5);
        t.is("as written", t.script(x, 1), "1P0T2U1C0D");
        t.is("what it was taken from stays", t.script(x, 0), "0C1D2T0U1P");
    }

    @Edge(promise = 7, says = "A WORK is another one (or the same) UNDONE")
    static void undoneOfItself(Talk t) {
        LaceWorks x = t.of("C1TP", "C1T");
        t.is("undone(0, 0)", x.undone(0, 0), 3);
        t.is("three STEPS", t.script(x, 0), "1PU0D");
        t.is("undone(1, 1)", x.undone(1, 1), 2);
        t.is("two STEPS", t.script(x, 1), "1U0D");
        t.is("undone(1, 1) again", x.undone(1, 1), 2);
        t.is("as at first", t.script(x, 1), "0C1T");
    }

    @Edge(promise = 7, says = "how many STEPS.")
    static void undoneOfNothingAndOfSixty(Talk t) {
        LaceWorks x = t.of("C", "", "P((C)6)9(C)5");
        t.is("undone(0, 1)", x.undone(0, 1), 0);
        t.is("nothing", x.step(0, -1, 0), 0);
        t.is("undone(3, 2)", x.undone(3, 2), 60);
        t.is("the first", x.step(3, 0, 0), 1);
        t.is("the last", x.step(3, 59, 0), 4);
        t.is("undone(2, 2)", x.undone(2, 2), 60);
        t.is("the last", x.step(2, 59, 0), 4);
    }

    @Edge(promise = 7, says = "UNKNOWN: both.")
    static void undoneUnknown(Talk t) {
        LaceWorks x = t.of("C");
        for (int work : new int[] {-1, 4, MIN, MAX}) {
            t.is("undone(" + work + ", 0)", x.undone(work, 0), -1);
            t.is("undone(0, " + work + ")", x.undone(0, work), -1);
        }
        t.is("undone(3, 0)", x.undone(3, 0), 1);
    }

    // ---- promise 8

    @Edge(promise = 8, says = "its KIND (what = 0: C 0, D 1, T 2, U 3, P 4), SPOT (1)")
    static void stepOfEachKind(Talk t) {
        LaceWorks x = t.of("0C1D2T0U2P");
        int[] spots = {0, 1, 2, 0, 2};
        for (int i = 0; i < 5; i++) {
            t.is("step(0, " + i + ", 0)", x.step(0, i, 0), i);
            t.is("step(0, " + i + ", 1)", x.step(0, i, 1), spots[i]);
        }
    }

    @Edge(promise = 8, says = "i = -1: how many STEPS, whatever what is, if it is 0 or 1")
    static void stepHowMany(Talk t) {
        LaceWorks x = t.of("1CT", SIXTY);
        t.is("step(0, -1, 0)", x.step(0, -1, 0), 2);
        t.is("step(0, -1, 1)", x.step(0, -1, 1), 2);
        t.is("step(1, -1, 1)", x.step(1, -1, 1), 60);
        t.is("step(2, -1, 1)", x.step(2, -1, 1), 0);
        t.is("step(0, -1, 2)", x.step(0, -1, 2), -2);
        t.is("step(0, -1, -1)", x.step(0, -1, -1), -2);
    }

    @Edge(promise = 8, says = "NONE: there is none such.")
    static void stepBehindTheLast(Talk t) {
        LaceWorks x = t.of("1CT", SIXTY);
        t.is("step(0, 1, 0)", x.step(0, 1, 0), 2);
        t.is("step(0, 2, 0)", x.step(0, 2, 0), -6);
        t.is("step(0, 2, 1)", x.step(0, 2, 1), -6);
        t.is("step(0, MAX, 0)", x.step(0, MAX, 0), -6);
        t.is("step(1, 59, 0)", x.step(1, 59, 0), 0);
        t.is("step(1, 60, 0)", x.step(1, 60, 0), -6);
        t.is("step(2, 0, 1)", x.step(2, 0, 1), -6);
    }

    /** What a longer WORK left behind is none of a shorter one's. */
    @Edge(promise = 8, says = "NONE: there is none such.")
    static void stepBehindAShorterWork(Talk t) {
        LaceWorks x = t.of(SIXTY);
        t.put(x, 0, "T");
        t.is("step(0, 1, 0)", x.step(0, 1, 0), -6);
        t.is("step(0, 59, 0)", x.step(0, 59, 0), -6);
    }

    @Edge(promise = 8, says = "UNKNOWN; OUTSIDE: i is below -1, what.")
    static void stepUnknown(Talk t) {
        LaceWorks x = t.of("C");
        for (int work : new int[] {-1, 4, MIN, MAX}) {
            t.is("step(" + work + ", 0, 0)", x.step(work, 0, 0), -1);
            t.is("step(" + work + ", -2, 2): ahead of OUTSIDE", x.step(work, -2, 2), -1);
        }
    }

    @Edge(promise = 8, says = "OUTSIDE: i is below -1, what.")
    static void stepOutside(Talk t) {
        LaceWorks x = t.of("C");
        t.is("step(0, -2, 0)", x.step(0, -2, 0), -2);
        t.is("step(0, -2, 1)", x.step(0, -2, 1), -2);
        t.is("step(0, MIN, 0)", x.step(0, MIN, 0), -2);
        for (int what : new int[] {-1, 2, MIN, MAX}) {
            t.is("step(0, 0, " + what + ")", x.step(0, 0, what), -2);
        }
    }

    // ---- promise 9

    @Edge(promise = 9, says = "Sign k, from 0 on, of a WORK WRITTEN (k = -1: how many)")
    static void writtenLeastAndMost(Talk t) {
        LaceWorks x = t.of("", "P", "((C1T0)5)6", SIXTY);
        t.is("nothing", x.written(0, -1), 0);
        t.is("one STEP", x.written(1, -1), 2);
        t.is("its figure", x.written(1, 0), '0');
        t.is("its sign", x.written(1, 1), 'P');
        t.is("sixty STEPS, each with another SPOT", x.written(2, -1), 120);
        t.is("the last sign", x.written(2, 119), 'T');
        t.is("the last figure", x.written(2, 118), '1');
        t.is("sixty STEPS with one SPOT", x.written(3, -1), 61);
        t.is("the last sign", x.written(3, 60), 'C');
    }

    @Edge(promise = 9, says = "Sign k, from 0 on, of a WORK WRITTEN (k = -1: how many)")
    static void writtenSignsOfEachKind(Talk t) {
        LaceWorks x = t.of("CDTUP12T");
        String want = "0CDTUP2T";
        t.is("written(0, -1)", x.written(0, -1), want.length());
        for (int k = 0; k < want.length(); k++) {
            t.is("written(0, " + k + ")", x.written(0, k), want.charAt(k));
        }
    }

    @Edge(promise = 9, says = "NONE: there is none such.")
    static void writtenBehindTheLast(Talk t) {
        LaceWorks x = t.of("", "P", "((C1T0)5)6");
        t.is("written(0, 0)", x.written(0, 0), -6);
        t.is("written(1, 2)", x.written(1, 2), -6);
        t.is("written(2, 120)", x.written(2, 120), -6);
        t.is("written(1, 119), asked behind a longer one", x.written(1, 119), -6);
        t.is("written(1, MAX)", x.written(1, MAX), -6);
    }

    @Edge(promise = 9, says = "UNKNOWN; OUTSIDE: k is below -1.")
    static void writtenUnknown(Talk t) {
        LaceWorks x = t.of("C");
        for (int work : new int[] {-1, 4, MIN, MAX}) {
            t.is("written(" + work + ", 0)", x.written(work, 0), -1);
            t.is("written(" + work + ", -2): ahead of OUTSIDE", x.written(work, -2), -1);
        }
    }

    @Edge(promise = 9, says = "OUTSIDE: k is below -1.")
    static void writtenOutside(Talk t) {
        LaceWorks x = t.of("C");
        t.is("written(0, -2)", x.written(0, -2), -2);
        t.is("written(0, MIN)", x.written(0, MIN), -2);
        t.is("written(3, -2)", x.written(3, -2), -2);
    }
}
