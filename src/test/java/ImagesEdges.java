/** The edges of promises 18 to 20: IMAGES, and what is counted. */
final class ImagesEdges {
    private static final int MIN = Integer.MIN_VALUE, MAX = Integer.MAX_VALUE;
    private static final String SIXTY = "((C)6)9(C)6";
    private static final String TOLD_FAULT = "the place of the FAULT that work() told last, which stays till it tells another one"
        + " (2; NONE: none yet)";

    private ImagesEdges() {
    }

    // ---- promise 18

    @Edge(promise = 18, says = "All WORKS (nothing else) are kept in an IMAGE (0, 1)")
    static void imageOfAllWorks(Talk t) {
        LaceWorks x = t.of("C", "1T", "2U", "P");
        t.is("image(0)", x.image(0), 1);
        for (int work = 0; work < 4; work++) {
            t.put(x, work, "DD");
        }
        x.restore(0);
        t.is("all four", t.script(x, 0) + t.script(x, 1) + t.script(x, 2) + t.script(x, 3), "0C1T2U0P");
    }

    @Edge(promise = 18, says = "All WORKS (nothing else) are kept in an IMAGE (0, 1)")
    static void imageOfNoStepsAndOfSixty(Talk t) {
        LaceWorks x = new LaceWorks();
        t.is("image(0)", x.image(0), 1);
        for (int work = 0; work < 4; work++) {
            t.put(x, work, SIXTY);
        }
        t.is("image(1)", x.image(1), 1);
        x.restore(0);
        t.is("none", x.count(1), 0);
        x.restore(1);
        t.is("sixty in each", x.count(1), 240);
        t.is("the last one's last", x.step(3, 59, 0), 0);
    }

    @Edge(promise = 18, says = "(nothing else)")
    static void imageOfNothingElse(Talk t) {
        LaceWorks x = t.of("C");
        t.pad(x, "T!");
        x.work(1);
        x.image(0);
        t.is("THE PAD stays", x.count(0), 2);
        t.is("WORKS stay", t.script(x, 0), "0C");
        t.pad(x, "TTT");
        x.restore(0);
        t.is("THE PAD is not brought back", x.count(0), 3);
        t.is("work(1)", x.work(1), 3);
        t.pad(x, ")");
        x.work(1);
        x.restore(0);
        t.is("the FAULT is not brought back", x.count(2), 0);
    }

    @Edge(promise = 18, says = "in place of what was kept there: 1.")
    static void imageInPlace(Talk t) {
        LaceWorks x = t.of("C", "TT");
        x.image(1);
        t.put(x, 0, "UUU");
        t.put(x, 1, "");
        t.is("image(1) again", x.image(1), 1);
        t.put(x, 0, "P");
        x.restore(1);
        t.is("WORK 0", t.script(x, 0), "0UUU");
        t.is("WORK 1", t.script(x, 1), "");
    }

    /** The one is kept, whatever becomes of the other one. */
    @Edge(promise = 18, says = "in an IMAGE (0, 1)")
    static void imagesOfTheirOwn(Talk t) {
        LaceWorks x = t.of("C");
        x.image(0);
        t.put(x, 0, "T");
        x.image(1);
        t.put(x, 0, "U");
        x.restore(0);
        t.is("IMAGE 0", t.script(x, 0), "0C");
        x.restore(1);
        t.is("IMAGE 1", t.script(x, 0), "0T");
    }

    @Edge(promise = 18, says = "OUTSIDE.")
    static void imageOutside(Talk t) {
        LaceWorks x = t.of("C");
        for (int k : new int[] {-1, 2, 32, MIN, MAX}) {
            t.is("image(" + k + ")", x.image(k), -2);
        }
        t.is("none is kept", x.count(3), 0);
    }

    // ---- promise 19

    @Edge(promise = 19, says = "They are as they were when they were kept")
    static void restoreAgainAndAgain(Talk t) {
        LaceWorks x = t.of("C1T");
        x.image(0);
        x.undone(0, 0);
        t.is("restore(0)", x.restore(0), 1);
        t.is("behind undone()", t.script(x, 0), "0C1T");
        x.join(0, 0, 0);
        t.is("restore(0) again", x.restore(0), 1);
        t.is("behind join()", t.script(x, 0), "0C1T");
        t.put(x, 0, "");
        t.is("restore(0) once more", x.restore(0), 1);
        t.is("behind work()", t.script(x, 0), "0C1T");
    }

    /** Kept first and changed then: the IMAGE is of its own, not the WORKS themselves. */
    @Edge(promise = 19, says = "They are as they were when they were kept")
    static void restoreDoesNotTie(Talk t) {
        LaceWorks x = t.of("C");
        x.image(0);
        x.image(1);
        x.restore(0);
        t.put(x, 0, "TT");
        x.restore(1);
        t.is("IMAGE 1", t.script(x, 0), "0C");
        x.undone(0, 0);
        x.restore(0);
        t.is("IMAGE 0", t.script(x, 0), "0C");
    }

    @Edge(promise = 19, says = "THE PAD, the IMAGE stay: 1.")
    static void restoreLeavesThePad(Talk t) {
        LaceWorks x = t.of("C");
        x.image(0);
        t.pad(x, "T1(P");
        x.restore(0);
        t.is("count(0)", x.count(0), 4);
        t.is("fault()", x.fault(), 4);
        t.sayAll(x, ")2");
        x.work(0);
        t.is("its signs", t.script(x, 0), "0T1PP");
    }

    @Edge(promise = 19, says = "THE PAD, the IMAGE stay: 1.")
    static void restoreLeavesTheImages(Talk t) {
        LaceWorks x = t.of("C");
        x.image(1);
        x.restore(1);
        t.is("count(3)", x.count(3), 2);
        t.is("restore(1) again", x.restore(1), 1);
        t.is("restore(0)", x.restore(0), -3);
    }

    @Edge(promise = 19, says = "OUTSIDE; STATE: nothing was kept in it.")
    static void restoreOutside(Talk t) {
        LaceWorks x = t.of("C");
        x.image(0);
        x.image(1);
        for (int k : new int[] {-1, 2, 32, MIN, MAX}) {
            t.is("restore(" + k + ")", x.restore(k), -2);
        }
    }

    @Edge(promise = 19, says = "STATE: nothing was kept in it.")
    static void restoreOfNothingKept(Talk t) {
        LaceWorks x = t.of("C");
        t.is("restore(0)", x.restore(0), -3);
        t.is("restore(1)", x.restore(1), -3);
        x.image(1);
        t.is("restore(0), while 1 is kept", x.restore(0), -3);
        t.is("restore(1)", x.restore(1), 1);
        LaceWorks y = t.of("C");
        y.image(0);
        t.is("restore(1), while 0 is kept", y.restore(1), -3);
        t.is("restore(0)", y.restore(0), 1);
    }

    // ---- promise 20

    @Edge(promise = 20, says = "Signs of THE PAD (0)")
    static void countOfSigns(Talk t) {
        LaceWorks x = new LaceWorks();
        t.is("none", x.count(0), 0);
        x.say('!');
        t.is("one", x.count(0), 1);
        t.pad(x, "C".repeat(40));
        t.is("forty", x.count(0), 40);
    }

    @Edge(promise = 20, says = "STEPS of all WORKS (1)")
    static void countOfSteps(Talk t) {
        t.is("none", new LaceWorks().count(1), 0);
        t.is("ten", t.of("C", "TT", "UUU", "PPPP").count(1), 10);
        t.is("the most", t.of(SIXTY, SIXTY, SIXTY, SIXTY).count(1), 240);
        LaceWorks x = t.of("CT");
        t.pad(x, "PPP");
        t.is("signs are no STEPS yet", x.count(1), 2);
    }

    @Edge(promise = 20, says = TOLD_FAULT)
    static void countOfNoFaultYet(Talk t) {
        LaceWorks x = t.of("C");
        t.pad(x, "!");
        t.is("none yet", x.count(2), -6);
        x.fault();
        t.is("fault() tells none of it", x.count(2), -6);
        x.work(4);
        t.is("UNKNOWN tells none", x.count(2), -6);
        t.pad(x, "((C)9)9");
        x.work(0);
        t.is("FULL tells none", x.count(2), -6);
    }

    @Edge(promise = 20, says = TOLD_FAULT)
    static void countOfFaultFirstAndLast(Talk t) {
        LaceWorks x = new LaceWorks();
        t.pad(x, "!");
        x.work(0);
        t.is("the first sign", x.count(2), 0);
        t.pad(x, "C".repeat(39) + ")");
        x.work(0);
        t.is("the fortieth sign", x.count(2), 39);
        t.pad(x, "C".repeat(39) + "(");
        x.work(0);
        t.is("behind forty signs", x.count(2), 40);
    }

    @Edge(promise = 20, says = "which stays till it tells another one")
    static void countOfFaultStays(Talk t) {
        LaceWorks x = t.of("C");
        x.image(0);
        t.pad(x, "CC!");
        x.work(0);
        t.is("told", x.count(2), 2);
        x.wipe();
        t.is("behind wipe()", x.count(2), 2);
        x.say('(');
        x.fault();
        t.is("behind say() and fault()", x.count(2), 2);
        x.work(4);
        t.is("behind UNKNOWN", x.count(2), 2);
        t.pad(x, "((C)9)9");
        x.work(0);
        t.is("behind FULL", x.count(2), 2);
        t.put(x, 0, "T");
        t.is("behind a WORK", x.count(2), 2);
        x.restore(0);
        t.is("behind restore()", x.count(2), 2);
        t.pad(x, "C!");
        x.work(0);
        t.is("another one", x.count(2), 1);
    }

    @Edge(promise = 20, says = "which IMAGES are kept, a set: bits 0, 1 (3).")
    static void countOfImages(Talk t) {
        LaceWorks x = new LaceWorks();
        t.is("none", x.count(3), 0);
        x.image(1);
        t.is("1 alone", x.count(3), 2);
        x.image(1);
        t.is("1 again", x.count(3), 2);
        x.image(0);
        t.is("both", x.count(3), 3);
        LaceWorks y = new LaceWorks();
        y.image(0);
        t.is("0 alone", y.count(3), 1);
    }

    @Edge(promise = 20, says = "OUTSIDE.")
    static void countOutside(Talk t) {
        LaceWorks x = t.of("C");
        for (int what : new int[] {-1, 4, MIN, MAX}) {
            t.is("count(" + what + ")", x.count(what), -2);
        }
    }
}
