/** The edges among the terms: PLACES, KINDS, LETTERS, MOVES, a WORK WRITTEN, the order of refusals. */
final class TermsEdges {
    private static final String FIRST_THAT_FITS =
        "Calls that are refused answer the first that fits, in the order in which they are told with the call";
    private static final String AS_THINGS_ARE = "All that is told is as things are when it is asked.";
    private static final String SHORT_FORM = "of all rows that its LETTERS become by MOVES the shortest, of such the first:"
        + " at the first place at which they differ that with the lesser LETTER.";
    private static final String PASS = "two that stand side by side change places in the row, if the lesser PLACES of their"
        + " changes are 2 or more apart";
    private static final String GO_OR_COME = "two that stand side by side, of one lesser PLACE, but not the same, go, or come.";
    private static final String WRITTEN = "a figure for SPOT ahead of it, if it is another SPOT than that of the STEP before"
        + " it, or it is the first STEP.";

    private TermsEdges() {
    }

    // ---- calls

    @Edge(promise = 0, says = "An object is used for at most 512 calls after it has been made")
    static void lastOfManyCalls(Talk t) {
        LaceWorks x = new LaceWorks();
        for (int call = 1; call <= 510; call += 2) {
            t.is("say, call " + call, x.say('T'), 1);
            t.is("work, call " + (call + 1), x.work(0), 1);
        }
        t.is("the 511th call", x.undone(3, 0), 1);
        t.is("the 512th call", x.step(3, 0, 0), 3);
    }

    // ---- refusals

    @Edge(promise = 0, says = FIRST_THAT_FITS)
    static void outsideAheadOfFull(Talk t) {
        LaceWorks x = new LaceWorks();
        t.pad(x, "C".repeat(40));
        t.is("say(32) on a full pad", x.say(32), -2);
        t.is("say(127) on a full pad", x.say(127), -2);
        t.is("say(33) on a full pad", x.say(33), -4);
    }

    @Edge(promise = 0, says = FIRST_THAT_FITS)
    static void unknownAheadOfFault(Talk t) {
        LaceWorks x = new LaceWorks();
        t.pad(x, "(");
        t.is("work(4) of a faulty pad", x.work(4), -1);
        t.is("work(-1) of a faulty pad", x.work(-1), -1);
        t.is("work(3) of a faulty pad", x.work(3), -7);
    }

    @Edge(promise = 0, says = FIRST_THAT_FITS)
    static void faultAheadOfFull(Talk t) {
        LaceWorks x = new LaceWorks();
        t.pad(x, "((C)9)9)");
        t.is("work(0): 81 STEPS, then a sign that cannot stand", x.work(0), -7);
        t.pad(x, "((C)9)9(");
        t.is("work(0): 81 STEPS, then more must come", x.work(0), -7);
        t.pad(x, "((C)9)9");
        t.is("work(0): 81 STEPS", x.work(0), -4);
    }

    @Edge(promise = 0, says = FIRST_THAT_FITS)
    static void unknownAheadOfFullWithoutFault(Talk t) {
        LaceWorks x = new LaceWorks();
        t.pad(x, "((C)9)9");
        t.is("work(4): 81 STEPS", x.work(4), -1);
        t.put(x, 0, "((C)9)4");
        t.is("join(4, 0, 0): 72 STEPS", x.join(4, 0, 0), -1);
        t.is("join(3, 0, 0): 72 STEPS", x.join(3, 0, 0), -4);
    }

    @Edge(promise = 0, says = "NONE -6 is answered only where no refusal fits.")
    static void refusalsAheadOfNone(Talk t) {
        LaceWorks x = t.of("C");
        t.is("step: no such STEP, what outside", x.step(0, 1, 2), -2);
        t.is("step: no such WORK, no such STEP", x.step(4, 1, 0), -1);
        t.is("written: no such WORK, no such sign", x.written(4, 2), -1);
        t.is("met: never, but no such WORK", x.met(4, 0, 1, 2), -1);
        t.is("met: never, but one and the same", x.met(0, 0, 0, 2), -2);
        t.is("pin: no PIN, what outside", x.pin(0, 0, 4), -2);
        t.is("pin: no PIN, no such WORK", x.pin(4, 0, 0), -1);
        t.is("letter: no such WORK, no such LETTER", x.letter(4, 1), -1);
        t.is("shortest: no such WORK, no such LETTER", x.shortest(4, 1), -1);
    }

    @Edge(promise = 0, says = "`UNKNOWN = -1, OUTSIDE = -2, STATE = -3, FULL = -4, NONE = -6, FAULT = -7`")
    static void constants(Talk t) {
        t.is("UNKNOWN", LaceWorks.UNKNOWN, -1);
        t.is("OUTSIDE", LaceWorks.OUTSIDE, -2);
        t.is("STATE", LaceWorks.STATE, -3);
        t.is("FULL", LaceWorks.FULL, -4);
        t.is("NONE", LaceWorks.NONE, -6);
        t.is("FAULT", LaceWorks.FAULT, -7);
    }

    /** Nothing is answered out of what was asked before: a new object that was never asked answers the same. */
    @Edge(promise = 0, says = AS_THINGS_ARE)
    static void askedAgainBehindAChange(Talk t) {
        LaceWorks x = t.of("PC", "C");
        t.is("first", answers(t, x), answers(t, t.of("PC", "C")));
        x.image(0);
        t.put(x, 0, "1T2PTU");
        t.is("behind work()", answers(t, x), answers(t, t.of("1T2PTU", "C")));
        x.undone(0, 0);
        t.is("behind undone()", answers(t, x), answers(t, t.of("2TUP1U", "C")));
        x.join(0, 1, 1);
        t.is("behind join()", answers(t, x), answers(t, t.of("CC", "C")));
        x.restore(0);
        t.is("behind restore()", answers(t, x), answers(t, t.of("PC", "C")));
    }

    private static String answers(Talk t, LaceWorks x) {
        StringBuilder s = new StringBuilder(t.script(x, 0));
        s.append(' ').append(t.lying(x, 0, x.step(0, -1, 0))).append(" L ").append(t.letters(x, 0));
        s.append(" S ").append(t.shortForm(x, 0)).append(" T");
        for (int what = 0; what <= 5; what++) {
            s.append(' ').append(x.told(0, what));
        }
        s.append(" P ").append(x.pin(0, 0, 0)).append(' ').append(x.pin(0, 0, 2));
        s.append(" M ").append(x.met(0, 1, 2, 0)).append(' ').append(x.met(0, 6, 7, 2));
        return s.append(' ').append(x.same(0, 1)).append(x.part(0)).append(x.count(1)).toString();
    }

    // ---- PLACES and KINDS

    @Edge(promise = 0, says = "PLACES are 0 to 7, from the left; BOBBINS are 0 to 7")
    static void outermostPlacesAndBobbins(Talk t) {
        LaceWorks x = t.of("T2T");
        t.is("from the left", t.lying(x, 0, 2), "10325476");
        t.is("PLACE -1", x.at(0, 2, -1), -2);
        t.is("PLACE 8", x.at(0, 2, 8), -2);
        t.is("BOBBINS 0 and 1", x.met(0, 0, 1, 0), 1);
        t.is("BOBBINS 6 and 7", x.met(0, 6, 7, 0), 1);
        t.is("BOBBIN -1", x.met(0, -1, 0, 0), -2);
        t.is("BOBBIN 8", x.met(0, 7, 8, 0), -2);
    }

    @Edge(promise = 0, says = "A STEP has a KIND and a SPOT, 0 to 2.")
    static void leastAndGreatestSpot(Talk t) {
        LaceWorks x = t.of("0P2P", "0T", "2T");
        t.is("the least", x.step(0, 0, 1), 0);
        t.is("the greatest", x.step(0, 1, 1), 2);
        t.is("the least reaches PLACE 0", t.lying(x, 1, 1), "10324567");
        t.is("the greatest reaches PLACE 7", t.lying(x, 2, 1), "01235476");
    }

    @Edge(promise = 0, says = "BOBBIN b at PLACE b at first")
    static void bobbinsAtFirst(Talk t) {
        LaceWorks x = new LaceWorks();
        for (int work = 0; work < 4; work++) {
            t.is("WORK " + work, t.lying(x, work, 0), "01234567");
        }
    }

    /** Where the BOBBINS lie behind one STEP of a KIND, with SPOT 0, 1 and 2. */
    private static void places(Talk t, char kind, String spot0, String spot1, String spot2) {
        LaceWorks x = t.of("0" + kind, "1" + kind, "2" + kind);
        t.is("0" + kind, t.lying(x, 0, 1), spot0);
        t.is("1" + kind, t.lying(x, 1, 1), spot1);
        t.is("2" + kind, t.lying(x, 2, 1), spot2);
    }

    private static void over(Talk t, String text, int upper, int lower) {
        LaceWorks x = t.of(text);
        t.is(text + ": " + upper + " over " + lower, x.met(0, upper, lower, 1), 1);
        t.is(text + ": " + lower + " over " + upper, x.met(0, lower, upper, 1), 0);
    }

    @Edge(promise = 0, says = "C: the BOBBINS at PLACES 2 SPOT and 1, added, and 2 SPOT and 2, added, change places")
    static void placesOfC(Talk t) {
        places(t, 'C', "02134567", "01243567", "01234657");
    }

    @Edge(promise = 0, says = "the one from the left goes OVER the other one")
    static void overOfC(Talk t) {
        over(t, "0C", 1, 2);
        over(t, "1C", 3, 4);
        over(t, "2C", 5, 6);
    }

    /** The one from the left is told by its PLACE then, not by its number. */
    @Edge(promise = 0, says = "the one from the left goes OVER the other one")
    static void overOfCAgain(Talk t) {
        LaceWorks x = t.of("CC");
        t.is("CC: 1 over 2", x.met(0, 1, 2, 1), 1);
        t.is("CC: 2 over 1", x.met(0, 2, 1, 1), 1);
    }

    @Edge(promise = 0, says = "D: likewise, but the one from the right goes OVER")
    static void placesAndOverOfD(Talk t) {
        places(t, 'D', "02134567", "01243567", "01234657");
        over(t, "0D", 2, 1);
        over(t, "1D", 4, 3);
        over(t, "2D", 6, 5);
    }

    @Edge(promise = 0, says = "T: those at 2 SPOT and 2 SPOT and 1, added, change places, the one from the right goes OVER,"
        + " then those at 2 SPOT and 2, added, and 2 SPOT and 3, added, likewise")
    static void placesAndOverOfT(Talk t) {
        places(t, 'T', "10324567", "01325467", "01235476");
        over(t, "0T", 1, 0);
        over(t, "0T", 3, 2);
        over(t, "1T", 3, 2);
        over(t, "1T", 5, 4);
        over(t, "2T", 5, 4);
        over(t, "2T", 7, 6);
    }

    @Edge(promise = 0, says = "U: as T, but those from the left go OVER")
    static void placesAndOverOfU(Talk t) {
        places(t, 'U', "10324567", "01325467", "01235476");
        over(t, "0U", 0, 1);
        over(t, "0U", 2, 3);
        over(t, "1U", 2, 3);
        over(t, "1U", 4, 5);
        over(t, "2U", 4, 5);
        over(t, "2U", 6, 7);
    }

    @Edge(promise = 0, says = "P: a PIN, nothing changes places.")
    static void placesOfP(Talk t) {
        places(t, 'P', "01234567", "01234567", "01234567");
    }

    @Edge(promise = 0, says = "(With SPOT 1: C and D are of PLACES 3 and 4; T and U of 2 and 3, then of 4 and 5.)")
    static void spotOne(Talk t) {
        LaceWorks x = t.of("1C", "1D", "1T", "1U");
        t.is("1C", t.letters(x, 0), "30");
        t.is("1D", t.letters(x, 1), "31");
        t.is("1T", t.letters(x, 2), "21 41");
        t.is("1U", t.letters(x, 3), "20 40");
    }

    @Edge(promise = 0, says = "A WORK, 0 to 3, is a row of up to 60 STEPS, perhaps none (at first).")
    static void mostSteps(Talk t) {
        LaceWorks x = t.of("((C)5)9(C)6(T)82P", "", "C", "((C)6)9(C)6");
        t.is("how many", x.step(0, -1, 0), 60);
        t.is("the 59th", x.step(0, 58, 0), 2);
        t.is("the 60th", x.step(0, 59, 0), 4);
        t.is("SPOT of the 60th", x.step(0, 59, 1), 2);
        t.is("the next WORK is not touched", x.step(1, -1, 0), 0);
        t.is("WORK 3 may have 60 too", x.step(3, -1, 0), 60);
    }

    @Edge(promise = 0, says = "A WORK, 0 to 3, is a row of up to 60 STEPS, perhaps none (at first).")
    static void fourWorksOfTheirOwn(Talk t) {
        LaceWorks x = t.of("C", "TT", "UUU", "PPPP");
        for (int work = 0; work < 4; work++) {
            t.is("STEPS of WORK " + work, x.step(work, -1, 0), work + 1);
        }
        t.put(x, 0, "");
        t.is("a WORK may be without STEPS again", x.step(0, -1, 0), 0);
        t.is("the others stay", x.count(1), 9);
    }

    // ---- LETTERS and MOVES

    @Edge(promise = 0, says = "each change of places, in order, is one: 10 times the lesser PLACE, and 1 more, if the one"
        + " from the right goes OVER (0 to 61).")
    static void leastAndGreatestLetter(Talk t) {
        LaceWorks x = t.of("0U", "2T", "P");
        t.is("0U has the least", t.letters(x, 0), "0 20");
        t.is("2T has the greatest", t.letters(x, 1), "41 61");
        t.is("P has none", t.letters(x, 2), "");
    }

    @Edge(promise = 0, says = PASS)
    static void twoApartPass(Talk t) {
        LaceWorks x = t.of("0C1C", "1C0C");
        t.is("10 30 and 30 10", x.same(0, 1), 1);
        t.is("the short form of 30 10", t.shortForm(x, 1), "10 30");
    }

    @Edge(promise = 0, says = PASS)
    static void oneApartDoNotPass(Talk t) {
        LaceWorks x = t.of("1C1T", "1T1C", "C1T", "1T0C");
        t.is("30 21 41 and 21 41 30", x.same(0, 1), 0);
        t.is("10 21 41 and 21 41 10", x.same(2, 3), 0);
        t.is("30 keeps ahead of 21 and 41", t.shortForm(x, 0), "30 21 41");
        t.is("21 keeps ahead of 10, 41 does not", t.shortForm(x, 3), "21 10 41");
    }

    @Edge(promise = 0, says = PASS)
    static void mostApartPass(Talk t) {
        LaceWorks x = t.of("2T0U", "0U2T");
        t.is("41 61 0 20 and 0 20 41 61", x.same(0, 1), 1);
        t.is("the short form", t.shortForm(x, 0), "0 20 41 61");
    }

    /** 10 and 11 are of one PLACE: they never pass one another, they go. */
    @Edge(promise = 0, says = GO_OR_COME)
    static void oppositesGo(Talk t) {
        LaceWorks x = t.of("CD", "DC", "TU", "UT");
        for (int work = 0; work < 4; work++) {
            t.is("WORK " + work, t.shortForm(x, work), "");
        }
    }

    @Edge(promise = 0, says = GO_OR_COME)
    static void alikeStay(Talk t) {
        LaceWorks x = t.of("CC", "DD", "TT", "UU");
        t.is("CC", t.shortForm(x, 0), "10 10");
        t.is("DD", t.shortForm(x, 1), "11 11");
        t.is("TT", t.shortForm(x, 2), "1 1 21 21");
        t.is("UU", t.shortForm(x, 3), "0 0 20 20");
    }

    /** Only of ONE lesser PLACE: 10 and 31 stand side by side and stay, and so do 10 and 21. */
    @Edge(promise = 0, says = GO_OR_COME)
    static void othersStay(Talk t) {
        LaceWorks x = t.of("C1D", "C1T");
        t.is("10 31", t.shortForm(x, 0), "10 31");
        t.is("10 21 41", t.shortForm(x, 1), "10 21 41");
    }

    /** What stands between them and can pass is no hindrance; what cannot pass is. */
    @Edge(promise = 0, says = GO_OR_COME)
    static void broughtSideBySide(Talk t) {
        LaceWorks x = t.of("C2C0D", "C0T0D", "C1C2C0D", "1C2T0C1D");
        t.is("10 50 11", t.shortForm(x, 0), "50");
        t.is("10 1 21 11", t.shortForm(x, 1), "10 1 21 11");
        t.is("10 30 50 11", t.shortForm(x, 2), "30 50");
        t.is("30 41 61 10 31", t.shortForm(x, 3), "10 30 41 31 61");
    }

    /** What goes lets others come side by side, over and over. */
    @Edge(promise = 0, says = GO_OR_COME)
    static void goesFromWithin(Talk t) {
        LaceWorks x = t.of("CTDCUD", "CTD1C1D0CUD", "((C)5(D)5)6", "((T)3(U)3)9(TU)3");
        for (int work = 0; work < 4; work++) {
            t.is("WORK " + work, x.shortest(work, -1), 0);
        }
    }

    @Edge(promise = 0, says = GO_OR_COME)
    static void comesToo(Talk t) {
        LaceWorks x = t.of("", "CD", "C", "1TUC0C1D");
        t.is("nothing and CD", x.same(0, 1), 1);
        t.is("CD and nothing", x.same(1, 0), 1);
        t.is("C and TUCCD", x.same(2, 3), 1);
    }

    @Edge(promise = 0, says = "(PINS are no matter.)")
    static void pinsAreNoMatter(Talk t) {
        LaceWorks x = t.of("CPD", "PPP", "", "P");
        t.is("C P D", x.shortest(0, -1), 0);
        t.is("PINS alone", x.shortest(1, -1), 0);
        t.is("CPD and nothing", x.same(0, 2), 1);
        t.is("PPP and P", x.same(1, 3), 1);
    }

    @Edge(promise = 0, says = SHORT_FORM)
    static void shortFormOfNothing(Talk t) {
        t.is("nothing", t.shortForm(new LaceWorks(), 0), "");
    }

    @Edge(promise = 0, says = SHORT_FORM)
    static void lesserLetterFirst(Talk t) {
        LaceWorks x = t.of("2C1C0C", "2D0U", "1T0T", "2C0D1C0C");
        t.is("50 30 10", t.shortForm(x, 0), "10 30 50");
        t.is("51 0 20", t.shortForm(x, 1), "0 20 51");
        t.is("21 41 1 21", t.shortForm(x, 2), "1 21 21 41");
        t.is("50 11 30 10", t.shortForm(x, 3), "30 50");
    }

    /** A lesser LETTER that cannot come first comes as soon as it can. */
    @Edge(promise = 0, says = SHORT_FORM)
    static void lesserLetterAsSoonAsItCan(Talk t) {
        LaceWorks x = t.of("2C1T0C", "1T0C1U", "2T1T0T");
        t.is("50 21 41 10", t.shortForm(x, 0), "21 10 50 41");
        t.is("21 41 10 20 40", t.shortForm(x, 1), "21 10 20");
        t.is("41 61 21 41 1 21", t.shortForm(x, 2), "1 21 21 41 41 61");
    }

    // ---- a WORK WRITTEN

    @Edge(promise = 0, says = WRITTEN)
    static void firstStepHasItsFigure(Talk t) {
        LaceWorks x = t.of("C", "0C", "2P", "");
        t.is("C", t.script(x, 0), "0C");
        t.is("0C", t.script(x, 1), "0C");
        t.is("2P", t.script(x, 2), "2P");
        t.is("no first STEP", t.script(x, 3), "");
    }

    @Edge(promise = 0, says = WRITTEN)
    static void anotherSpotHasItsFigure(Talk t) {
        LaceWorks x = t.of("0C0C1P1C2T0U", "1P2P1P0P");
        t.is("0C0C1P1C2T0U", t.script(x, 0), "0CC1PC2T0U");
        t.is("1P2P1P0P", t.script(x, 1), "1P2P1P0P");
    }

    @Edge(promise = 0, says = "(No PARTS.)")
    static void noParts(Talk t) {
        LaceWorks x = t.of("(C1)2", "2(CT)2", "((P)2U)2", "()9");
        t.is("(C1)2", t.script(x, 0), "0C1C");
        t.is("2(CT)2", t.script(x, 1), "2CTCT");
        t.is("((P)2U)2", t.script(x, 2), "0PPUPPU");
        t.is("()9", t.script(x, 3), "");
    }
}
