/** The edges of promises 10 to 13: where BOBBINS lie, who meets whom, what is told of a WORK, its PINS. */
final class BobbinsEdges {
    private static final int MIN = Integer.MIN_VALUE, MAX = Integer.MAX_VALUE;
    private static final int[] NO_WORKS = {-1, 4, MIN, MAX};
    private static final String SIXTY_C = "((C)6)9(C)6";
    private static final String SIXTY_P = "((P)6)9(P)6";
    private static final String TIMES = "how many times it has to be done, one behind another, 1 at least, till all BOBBINS"
        + " lie as at first (3)";
    private static final String NEVER = "the set of BOBBINS that never change places (5: bit b tells whether BOBBIN b is in it)";

    private BobbinsEdges() {
    }

    // ---- promise 10

    @Edge(promise = 10, says = "(i from 0 to how many it has)")
    static void atBehindNoStep(Talk t) {
        LaceWorks x = t.of("T", "");
        t.is("a WORK with STEPS", t.lying(x, 0, 0), "01234567");
        t.is("a WORK without STEPS", t.lying(x, 1, 0), "01234567");
        t.is("at(0, -1, 0)", x.at(0, -1, 0), -2);
        t.is("at(0, MIN, 0)", x.at(0, MIN, 0), -2);
    }

    @Edge(promise = 10, says = "(i from 0 to how many it has)")
    static void atBehindTheLastStep(Talk t) {
        LaceWorks x = t.of("TC", "", "((C)6)9(C)51T");
        t.is("behind both", t.lying(x, 0, 2), "13024567");
        t.is("at(0, 3, 0)", x.at(0, 3, 0), -2);
        t.is("at(0, MAX, 0)", x.at(0, MAX, 0), -2);
        t.is("at(1, 1, 0)", x.at(1, 1, 0), -2);
        t.is("behind sixty", t.lying(x, 2, 60), "02315467");
        t.is("at(2, 61, 0)", x.at(2, 61, 0), -2);
    }

    @Edge(promise = 10, says = "behind the first i STEPS of a WORK")
    static void atBehindEachStep(Talk t) {
        LaceWorks x = t.of("CTP1C2TD");
        String[] want = {"01234567", "02134567", "20314567", "20314567", "20341567", "20345176", "20345716"};
        for (int i = 0; i < want.length; i++) {
            t.is("behind " + i, t.lying(x, 0, i), want[i]);
        }
    }

    @Edge(promise = 10, says = "OUTSIDE: i, the PLACE.")
    static void atThePlace(Talk t) {
        LaceWorks x = t.of("T2T");
        t.is("at(0, 2, 0)", x.at(0, 2, 0), 1);
        t.is("at(0, 2, 7)", x.at(0, 2, 7), 6);
        for (int place : new int[] {-1, 8, MIN, MAX}) {
            t.is("at(0, 2, " + place + ")", x.at(0, 2, place), -2);
        }
    }

    @Edge(promise = 10, says = "UNKNOWN; OUTSIDE: i, the PLACE.")
    static void atUnknown(Talk t) {
        LaceWorks x = t.of("T");
        for (int work : NO_WORKS) {
            t.is("at(" + work + ", 0, 0)", x.at(work, 0, 0), -1);
            t.is("at(" + work + ", -1, 8): ahead of OUTSIDE", x.at(work, -1, 8), -1);
        }
    }

    // ---- promise 11

    @Edge(promise = 11, says = "how often they change places with one another (what = 0)")
    static void metHowOften(Talk t) {
        LaceWorks x = t.of("P(C)3D", SIXTY_C, "CT");
        t.is("four times", x.met(0, 1, 2, 0), 4);
        t.is("four times, the other way", x.met(0, 2, 1, 0), 4);
        t.is("sixty times", x.met(1, 1, 2, 0), 60);
        t.is("never", x.met(0, 0, 1, 0), 0);
        t.is("never in nothing", x.met(3, 0, 7, 0), 0);
        t.is("not with one another: 0 and 1 in CT", x.met(2, 0, 1, 0), 0);
    }

    @Edge(promise = 11, says = "how often the first one goes OVER the other one then (1)")
    static void metOver(Talk t) {
        LaceWorks x = t.of("P(C)3D", SIXTY_C, "(CD)5");
        t.is("1 over 2", x.met(0, 1, 2, 1), 3);
        t.is("2 over 1", x.met(0, 2, 1, 1), 1);
        t.is("thirty times each: 1", x.met(1, 1, 2, 1), 30);
        t.is("thirty times each: 2", x.met(1, 2, 1, 1), 30);
        t.is("1 always over", x.met(2, 1, 2, 1), 10);
        t.is("2 never over", x.met(2, 2, 1, 1), 0);
        t.is("never met", x.met(0, 0, 1, 1), 0);
    }

    @Edge(promise = 11, says = "the STEP (from 0 on) with which they do first (2; NONE)")
    static void metFirst(Talk t) {
        LaceWorks x = t.of("C", "PPCC", "T", "((P)6)9(P)52C");
        t.is("the first STEP", x.met(0, 1, 2, 2), 0);
        t.is("the third STEP", x.met(1, 1, 2, 2), 2);
        t.is("the third STEP, the other way", x.met(1, 2, 1, 2), 2);
        t.is("the second change of the first STEP", x.met(2, 2, 3, 2), 0);
        t.is("the sixtieth STEP", x.met(3, 5, 6, 2), 59);
    }

    @Edge(promise = 11, says = "the STEP (from 0 on) with which they do first (2; NONE)")
    static void metNever(Talk t) {
        LaceWorks x = t.of("C");
        t.is("never", x.met(0, 0, 1, 2), -6);
        t.is("never, the other way", x.met(0, 1, 0, 2), -6);
        t.is("never in nothing", x.met(1, 1, 2, 2), -6);
    }

    @Edge(promise = 11, says = "OUTSIDE: both BOBBINS, or they are one, what.")
    static void metNoBobbin(Talk t) {
        LaceWorks x = t.of("T2T");
        t.is("met(0, 0, 1, 0)", x.met(0, 0, 1, 0), 1);
        t.is("met(0, 7, 6, 0)", x.met(0, 7, 6, 0), 1);
        for (int bobbin : new int[] {-1, 8, MIN, MAX}) {
            t.is("met(0, " + bobbin + ", 0, 0)", x.met(0, bobbin, 0, 0), -2);
            t.is("met(0, 0, " + bobbin + ", 0)", x.met(0, 0, bobbin, 0), -2);
        }
    }

    @Edge(promise = 11, says = "or they are one")
    static void metItself(Talk t) {
        LaceWorks x = t.of("T2T");
        for (int bobbin = 0; bobbin < 8; bobbin++) {
            for (int what = 0; what <= 2; what++) {
                t.is("met(0, " + bobbin + ", " + bobbin + ", " + what + ")", x.met(0, bobbin, bobbin, what), -2);
            }
        }
    }

    @Edge(promise = 11, says = "OUTSIDE: both BOBBINS, or they are one, what.")
    static void metWhat(Talk t) {
        LaceWorks x = t.of("T");
        for (int what : new int[] {-1, 3, MIN, MAX}) {
            t.is("met(0, 0, 1, " + what + ")", x.met(0, 0, 1, what), -2);
        }
    }

    @Edge(promise = 11, says = "UNKNOWN; OUTSIDE: both BOBBINS, or they are one, what.")
    static void metUnknown(Talk t) {
        LaceWorks x = t.of("T");
        for (int work : NO_WORKS) {
            t.is("met(" + work + ", 0, 1, 0)", x.met(work, 0, 1, 0), -1);
            t.is("met(" + work + ", 8, 8, 3): ahead of OUTSIDE", x.met(work, 8, 8, 3), -1);
        }
    }

    // ---- promise 12

    private static void toldIs(Talk t, String text, int what, int want) {
        t.is("told(0, " + what + ") of " + text, t.of(text).told(0, what), want);
    }

    @Edge(promise = 12, says = "how many STEPS (what = 0)")
    static void toldSteps(Talk t) {
        toldIs(t, "", 0, 0);
        toldIs(t, "CP", 0, 2);
        toldIs(t, SIXTY_C, 0, 60);
    }

    @Edge(promise = 12, says = "LETTERS (1)")
    static void toldLetters(Talk t) {
        toldIs(t, "", 1, 0);
        toldIs(t, "P", 1, 0);
        toldIs(t, "CDTUP", 1, 6);
        toldIs(t, SIXTY_C, 1, 60);
        toldIs(t, "((T)6)9(U)6", 1, 120);
    }

    @Edge(promise = 12, says = "PINS (2)")
    static void toldPins(Talk t) {
        toldIs(t, "", 2, 0);
        toldIs(t, "CDTU", 2, 0);
        toldIs(t, "PCP", 2, 2);
        toldIs(t, SIXTY_P, 2, 60);
    }

    @Edge(promise = 12, says = TIMES)
    static void toldOnceAtLeast(Talk t) {
        toldIs(t, "", 3, 1);
        toldIs(t, "PPP", 3, 1);
        toldIs(t, "CD", 3, 1);
        toldIs(t, SIXTY_C, 3, 1);
    }

    /** All numbers of times that eight BOBBINS can need, up to 15: a ring of 3 and one of 5. */
    @Edge(promise = 12, says = TIMES)
    static void toldEveryNumberOfTimes(Talk t) {
        toldIs(t, "C", 3, 2);
        toldIs(t, "CT1TC", 3, 3);
        toldIs(t, "CT", 3, 4);
        toldIs(t, "CT1C", 3, 5);
        toldIs(t, "C1T", 3, 6);
        toldIs(t, "CTC1CT2C", 3, 7);
        toldIs(t, "CT1C2CT", 3, 8);
        toldIs(t, "CT1C2C", 3, 10);
        toldIs(t, "CTC1T2C", 3, 12);
        toldIs(t, "TC2CTC1CT", 3, 15);
    }

    @Edge(promise = 12, says = TIMES)
    static void toldTimesOneAfterAnother(Talk t) {
        LaceWorks x = t.of("TC2CTC1CT", "C", "", "CT1C");
        int[] want = {15, 2, 1, 5};
        for (int asked = 0; asked < 16; asked++) {
            int work = asked % 4 < 2 ? asked / 4 : asked % 4;
            t.is("told(" + work + ", 3), asked as number " + asked, x.told(work, 3), want[work]);
        }
    }

    @Edge(promise = 12, says = "how many BOBBINS lie as at first behind it (4)")
    static void toldAsAtFirst(Talk t) {
        toldIs(t, "", 4, 8);
        toldIs(t, "CD", 4, 8);
        toldIs(t, "C", 4, 6);
        toldIs(t, "C1T", 4, 3);
        toldIs(t, "T2T", 4, 0);
    }

    @Edge(promise = 12, says = NEVER)
    static void toldNeverNone(Talk t) {
        toldIs(t, "T2T", 5, 0);
        toldIs(t, "TU2TU", 5, 0);
    }

    @Edge(promise = 12, says = NEVER)
    static void toldNeverAll(Talk t) {
        toldIs(t, "", 5, 255);
        toldIs(t, SIXTY_P, 5, 255);
    }

    @Edge(promise = 12, says = NEVER)
    static void toldNeverFirstAndLast(Talk t) {
        toldIs(t, "C1C2C", 5, 1 + 128);
        toldIs(t, "2T", 5, 15);
        toldIs(t, "0T", 5, 240);
        toldIs(t, "1C", 5, 255 - 8 - 16);
    }

    /** Those that lie as at first again have changed places all the same. */
    @Edge(promise = 12, says = NEVER)
    static void toldNeverThoughBack(Talk t) {
        toldIs(t, "CD", 5, 255 - 2 - 4);
        toldIs(t, "CC", 5, 255 - 2 - 4);
        toldIs(t, "CTC", 5, 240);
    }

    @Edge(promise = 12, says = "UNKNOWN; OUTSIDE.")
    static void toldOutside(Talk t) {
        LaceWorks x = t.of("T");
        for (int what : new int[] {-1, 6, MIN, MAX}) {
            t.is("told(0, " + what + ")", x.told(0, what), -2);
        }
        t.is("told(0, 5)", x.told(0, 5), 240);
    }

    @Edge(promise = 12, says = "UNKNOWN; OUTSIDE.")
    static void toldUnknown(Talk t) {
        LaceWorks x = t.of("T");
        for (int work : NO_WORKS) {
            t.is("told(" + work + ", 0)", x.told(work, 0), -1);
            t.is("told(" + work + ", 6): ahead of OUTSIDE", x.told(work, 6), -1);
        }
    }

    // ---- promise 13

    private static void pinIs(Talk t, LaceWorks x, int work, int i, String want) {
        StringBuilder got = new StringBuilder();
        for (int what = 0; what <= 3; what++) {
            got.append(what == 0 ? "" : " ").append(x.pin(work, i, what));
        }
        t.is("PIN " + i + " of WORK " + work, got.toString(), want);
    }

    @Edge(promise = 13, says = "Of the i-th PIN of a WORK, from 0 on: which STEP it is (what = 0), SPOT (1)")
    static void pinFirstAndLast(Talk t) {
        LaceWorks x = t.of("P", "C1P", SIXTY_P, "((C)6)9(D)52P");
        pinIs(t, x, 0, 0, "0 0 1 2");
        pinIs(t, x, 1, 0, "1 1 3 4");
        pinIs(t, x, 2, 0, "0 0 1 2");
        pinIs(t, x, 2, 59, "59 0 1 2");
        pinIs(t, x, 3, 0, "59 2 5 6");
    }

    /** Then: what STEPS behind it change is no matter. */
    @Edge(promise = 13, says = "the BOBBIN to the left of it then (2: at PLACE 2 SPOT and 1, added), to the right (3: at the next"
        + " PLACE)")
    static void pinBobbinsThen(Talk t) {
        LaceWorks x = t.of("PCP1P2TPC");
        pinIs(t, x, 0, 0, "0 0 1 2");
        pinIs(t, x, 0, 1, "2 0 2 1");
        pinIs(t, x, 0, 2, "3 1 3 4");
        pinIs(t, x, 0, 3, "5 2 4 7");
    }

    @Edge(promise = 13, says = "NONE: there is none such (i below 0, too).")
    static void pinNone(Talk t) {
        LaceWorks x = t.of("CPCP", "CDTU", "", SIXTY_P);
        pinIs(t, x, 0, 1, "3 0 1 2");
        pinIs(t, x, 0, 2, "-6 -6 -6 -6");
        pinIs(t, x, 0, MAX, "-6 -6 -6 -6");
        pinIs(t, x, 1, 0, "-6 -6 -6 -6");
        pinIs(t, x, 2, 0, "-6 -6 -6 -6");
        pinIs(t, x, 3, 60, "-6 -6 -6 -6");
    }

    @Edge(promise = 13, says = "(i below 0, too)")
    static void pinBelowNought(Talk t) {
        LaceWorks x = t.of("PP", "");
        for (int i : new int[] {-1, -2, -6, MIN}) {
            pinIs(t, x, 0, i, "-6 -6 -6 -6");
            pinIs(t, x, 1, i, "-6 -6 -6 -6");
        }
    }

    @Edge(promise = 13, says = "UNKNOWN; OUTSIDE: what.")
    static void pinOutside(Talk t) {
        LaceWorks x = t.of("P");
        for (int what : new int[] {-1, 4, MIN, MAX}) {
            t.is("pin(0, 0, " + what + ")", x.pin(0, 0, what), -2);
            t.is("pin(0, 1, " + what + "): no such PIN", x.pin(0, 1, what), -2);
            t.is("pin(0, -1, " + what + "): no such PIN", x.pin(0, -1, what), -2);
        }
    }

    @Edge(promise = 13, says = "UNKNOWN; OUTSIDE: what.")
    static void pinUnknown(Talk t) {
        LaceWorks x = t.of("P");
        for (int work : NO_WORKS) {
            t.is("pin(" + work + ", 0, 0)", x.pin(work, 0, 0), -1);
            t.is("pin(" + work + ", -1, 4): ahead of OUTSIDE", x.pin(work, -1, 4), -1);
        }
    }
}
