/** The edges of promises 14 to 17: LETTERS, THE SHORT FORM, the SAME, the least part that comes again. */
final class SameEdges {
    private static final int MIN = Integer.MIN_VALUE, MAX = Integer.MAX_VALUE;
    private static final int[] NO_WORKS = {-1, 4, MIN, MAX};
    private static final String SIXTY_T = "2((T)6)9(T)6";
    private static final String WHOLE = "The least number of first STEPS of a WORK that, done again and again as a whole, make"
        + " just all its STEPS (KINDS, SPOTS)";

    private SameEdges() {
    }

    // ---- promise 14

    @Edge(promise = 14, says = "LETTER i of a WORK, from 0 on (i = -1: how many)")
    static void letterFirstAndLast(Talk t) {
        LaceWorks x = t.of("0U", "", "PP", SIXTY_T);
        t.is("letter(0, -1)", x.letter(0, -1), 2);
        t.is("letter(0, 0)", x.letter(0, 0), 0);
        t.is("letter(0, 1)", x.letter(0, 1), 20);
        t.is("of nothing", x.letter(1, -1), 0);
        t.is("of PINS", x.letter(2, -1), 0);
        t.is("the most", x.letter(3, -1), 120);
        t.is("the first", x.letter(3, 0), 41);
        t.is("the last", x.letter(3, 119), 61);
    }

    @Edge(promise = 14, says = "LETTER i of a WORK, from 0 on (i = -1: how many)")
    static void letterOfEachStep(Talk t) {
        LaceWorks x = t.of("CDTUP1CDTUP2CDTUP", "CD", "2C0C");
        t.is("all KINDS and SPOTS", t.letters(x, 0), "10 11 1 21 0 20 30 31 21 41 20 40 50 51 41 61 40 60");
        t.is("none goes", t.letters(x, 1), "10 11");
        t.is("none passes", t.letters(x, 2), "50 10");
    }

    @Edge(promise = 14, says = "NONE: there is none such.")
    static void letterBehindTheLast(Talk t) {
        LaceWorks x = t.of("0U", "", "PP", SIXTY_T);
        t.is("letter(0, 2)", x.letter(0, 2), -6);
        t.is("letter(0, MAX)", x.letter(0, MAX), -6);
        t.is("letter(1, 0)", x.letter(1, 0), -6);
        t.is("letter(2, 0)", x.letter(2, 0), -6);
        t.is("letter(3, 120)", x.letter(3, 120), -6);
        t.is("letter(0, 119), asked behind a longer one", x.letter(0, 119), -6);
    }

    @Edge(promise = 14, says = "OUTSIDE: i is below -1.")
    static void letterOutside(Talk t) {
        LaceWorks x = t.of("0U");
        t.is("letter(0, -2)", x.letter(0, -2), -2);
        t.is("letter(0, MIN)", x.letter(0, MIN), -2);
        t.is("letter(1, -2)", x.letter(1, -2), -2);
    }

    @Edge(promise = 14, says = "UNKNOWN; OUTSIDE: i is below -1.")
    static void letterUnknown(Talk t) {
        LaceWorks x = t.of("0U");
        for (int work : NO_WORKS) {
            t.is("letter(" + work + ", 0)", x.letter(work, 0), -1);
            t.is("letter(" + work + ", -2): ahead of OUTSIDE", x.letter(work, -2), -1);
        }
    }

    // ---- promise 15

    @Edge(promise = 15, says = "LETTER i of THE SHORT FORM of a WORK, from 0 on (i = -1: how many)")
    static void shortestOfNothing(Talk t) {
        LaceWorks x = t.of("", "PPP", "CD", "((C)5(D)5)6");
        for (int work = 0; work < 4; work++) {
            t.is("shortest(" + work + ", -1)", x.shortest(work, -1), 0);
        }
    }

    @Edge(promise = 15, says = "LETTER i of THE SHORT FORM of a WORK, from 0 on (i = -1: how many)")
    static void shortestThatKeepsAll(Talk t) {
        LaceWorks x = t.of(SIXTY_T);
        t.is("shortest(0, -1)", x.shortest(0, -1), 120);
        t.is("shortest(0, 0)", x.shortest(0, 0), 41);
        t.is("shortest(0, 59)", x.shortest(0, 59), 41);
        t.is("shortest(0, 60)", x.shortest(0, 60), 61);
        t.is("shortest(0, 119)", x.shortest(0, 119), 61);
    }

    @Edge(promise = 15, says = "NONE: there is none such.")
    static void shortestBehindTheLast(Talk t) {
        LaceWorks x = t.of(SIXTY_T, "CDC", "", "CD");
        t.is("shortest(0, 120)", x.shortest(0, 120), -6);
        t.is("shortest(1, 0)", x.shortest(1, 0), 10);
        t.is("shortest(1, 1)", x.shortest(1, 1), -6);
        t.is("shortest(1, 2)", x.shortest(1, 2), -6);
        t.is("shortest(1, MAX)", x.shortest(1, MAX), -6);
        t.is("shortest(2, 0)", x.shortest(2, 0), -6);
        t.is("shortest(3, 0)", x.shortest(3, 0), -6);
    }

    @Edge(promise = 15, says = "OUTSIDE: i is below -1.")
    static void shortestOutside(Talk t) {
        LaceWorks x = t.of("C");
        t.is("shortest(0, -2)", x.shortest(0, -2), -2);
        t.is("shortest(0, MIN)", x.shortest(0, MIN), -2);
        t.is("shortest(1, -2)", x.shortest(1, -2), -2);
    }

    @Edge(promise = 15, says = "UNKNOWN; OUTSIDE: i is below -1.")
    static void shortestUnknown(Talk t) {
        LaceWorks x = t.of("C");
        for (int work : NO_WORKS) {
            t.is("shortest(" + work + ", 0)", x.shortest(work, 0), -1);
            t.is("shortest(" + work + ", -2): ahead of OUTSIDE", x.shortest(work, -2), -1);
        }
    }

    // ---- promise 16

    private static void sameIs(Talk t, String one, String other, int want) {
        LaceWorks x = t.of(one, other);
        t.is(one + " and " + other, x.same(0, 1), want);
        t.is(other + " and " + one, x.same(1, 0), want);
    }

    @Edge(promise = 16, says = "(or one with itself)")
    static void sameWithItself(Talk t) {
        LaceWorks x = t.of("", "CT", "CD", SIXTY_T);
        for (int work = 0; work < 4; work++) {
            t.is("same(" + work + ", " + work + ")", x.same(work, work), 1);
        }
    }

    @Edge(promise = 16, says = "are the SAME: 1, 0.")
    static void sameAsNothing(Talk t) {
        sameIs(t, "", "", 1);
        sameIs(t, "", "P", 1);
        sameIs(t, "", "CD", 1);
        sameIs(t, "", "C", 0);
        sameIs(t, "", "CC", 0);
    }

    @Edge(promise = 16, says = "are the SAME: 1, 0.")
    static void sameButForMoves(Talk t) {
        sameIs(t, "C2C", "2C0C", 1);
        sameIs(t, "1T0T", "T1T", 1);
        sameIs(t, "C1PC", "1CP0C", 1);
        sameIs(t, "TU2C", "2CDC", 1);
    }

    @Edge(promise = 16, says = "are the SAME: 1, 0.")
    static void notTheSame(Talk t) {
        sameIs(t, "C", "D", 0);
        sameIs(t, "C", "1C", 0);
        sameIs(t, "C", "CC", 0);
        sameIs(t, "CT", "TC", 0);
        sameIs(t, "T", "U", 0);
    }

    @Edge(promise = 16, says = "are the SAME: 1, 0.")
    static void notTheSameByOneLetter(Talk t) {
        sameIs(t, "CTC", "CTD", 0);
        sameIs(t, "C1T", "C1U", 0);
        sameIs(t, "((C)6)9(C)6", "((C)6)9(C)5", 0);
        sameIs(t, "((T)6)9(T)6", "((T)6)9(T)52C", 0);
        sameIs(t, "C((T)6)9C", "D((T)6)9C", 0);
    }

    /** BOBBINS lie alike behind both, but by no MOVES of the document does one become the other. */
    @Edge(promise = 16, says = "are the SAME: 1, 0.")
    static void notTheSameThoughLyingAlike(Talk t) {
        sameIs(t, "CC", "", 0);
        sameIs(t, "CTCT", "TCTC", 0);
        sameIs(t, "TCT", "CTC", 0);
    }

    @Edge(promise = 16, says = "UNKNOWN: both.")
    static void sameUnknown(Talk t) {
        LaceWorks x = t.of("C");
        for (int work : NO_WORKS) {
            t.is("same(" + work + ", 0)", x.same(work, 0), -1);
            t.is("same(0, " + work + ")", x.same(0, work), -1);
            t.is("same(" + work + ", " + work + ")", x.same(work, work), -1);
        }
        t.is("same(3, 2)", x.same(3, 2), 1);
    }

    // ---- promise 17

    private static void partIs(Talk t, String text, int want) {
        t.is("part(0) of " + text, t.of(text).part(0), want);
    }

    @Edge(promise = 17, says = "0, if it has no STEP.")
    static void partOfNothing(Talk t) {
        partIs(t, "", 0);
        partIs(t, "012", 0);
        partIs(t, "()9", 0);
    }

    @Edge(promise = 17, says = WHOLE)
    static void partOfOneStep(Talk t) {
        partIs(t, "C", 1);
        partIs(t, "2P", 1);
    }

    @Edge(promise = 17, says = WHOLE)
    static void partLeast(Talk t) {
        partIs(t, "CC", 1);
        partIs(t, "CTCT", 2);
        partIs(t, "(CTCT)3", 2);
        partIs(t, "(CCT)9", 3);
        partIs(t, "((C)6)9(C)6", 1);
        partIs(t, "((C)6)9(C)5", 1);
        partIs(t, "(((C)5T)5)2", 6);
    }

    /** The last time must be whole: CTC begins anew, but does not end. */
    @Edge(promise = 17, says = WHOLE)
    static void partAsAWhole(Talk t) {
        partIs(t, "CTC", 3);
        partIs(t, "CTCTC", 5);
        partIs(t, "CCTCC", 5);
        partIs(t, "(CTC)2CT", 8);
    }

    @Edge(promise = 17, says = WHOLE)
    static void partOfTheWholeWork(Talk t) {
        partIs(t, "CD", 2);
        partIs(t, "((C)6)9(C)5D", 60);
        partIs(t, "D((C)6)9(C)5", 60);
        partIs(t, "((C)5)5(C)4D((C)5)6", 60);
        partIs(t, "((C)5)5(C)4D((C)5)5(C)4D", 30);
    }

    @Edge(promise = 17, says = "(KINDS, SPOTS)")
    static void partOfSpots(Talk t) {
        partIs(t, "C1C", 2);
        partIs(t, "0C1C0C1C", 2);
        partIs(t, "0C1C0C2C", 4);
        partIs(t, "(C1)2", 2);
        partIs(t, "(C1C)3", 6);
    }

    @Edge(promise = 17, says = "UNKNOWN.")
    static void partUnknown(Talk t) {
        LaceWorks x = t.of("C");
        for (int work : NO_WORKS) {
            t.is("part(" + work + ")", x.part(work), -1);
        }
        t.is("part(3)", x.part(3), 0);
    }
}
