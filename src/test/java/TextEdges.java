/** The edges of what stands on THE PAD: which TEXTS there are, what they tell, where THE FAULT is. */
final class TextEdges {
    private static final int NONE = -6;
    private static final String FIRST_FAULT = "the place (0 is the first sign) of the first sign that cannot stand there";
    private static final String MORE_MUST_COME = "if there is none such, and more must come, how many signs it has";
    private static final String PARTS = "( and a TEXT and ) and a figure 1 to 9: that TEXT so many times, one behind the other.";
    private static final String MOST_OPEN = "There are never more than 3 ( not ended.";
    private static final String SPOT_TOLD_LAST = "its SPOT being the figure that was told last, in the order in which STEPS"
        + " come; 0, if none was yet";

    private TextEdges() {
    }

    private static void faultIs(Talk t, String signs, int want) {
        LaceWorks x = new LaceWorks();
        t.pad(x, signs);
        t.is("fault() of " + signs, x.fault(), want);
    }

    private static void reads(Talk t, String signs, String want) {
        t.is(signs + " as written", t.script(t.of(signs), 0), want);
    }

    @Edge(promise = 0, says = "THE PAD has up to 40 signs.")
    static void textOfFortySigns(Talk t) {
        String forty = "CDTUP012CDTUP012CDTUP012CDTUP012CDTUP012";
        LaceWorks x = new LaceWorks();
        t.pad(x, forty);
        t.is("fault()", x.fault(), NONE);
        t.is("work(0)", x.work(0), 25);
        t.is("as written", t.script(x, 0), "0CDTUP2CDTUPCDTUPCDTUPCDTUP");
    }

    @Edge(promise = 0, says = "A TEXT: a row, perhaps empty")
    static void emptyText(Talk t) {
        faultIs(t, "", NONE);
        t.is("work(0)", new LaceWorks().work(0), 0);
    }

    @Edge(promise = 0, says = "of signs C, D, T, U, P")
    static void signsOfKinds(Talk t) {
        faultIs(t, "CDTUP", NONE);
        for (String sign : new String[] {"B", "E", "S", "V", "O", "Q", "A", "c", "d", "t", "u", "p", "!", "~"}) {
            faultIs(t, sign, 0);
            faultIs(t, "C" + sign, 1);
        }
    }

    @Edge(promise = 0, says = SPOT_TOLD_LAST)
    static void spotIsNoughtAtFirst(Talk t) {
        reads(t, "C", "0C");
        reads(t, "(C)2", "0CC");
        reads(t, "C1T", "0C1T");
    }

    /** The SPOT of the pad before it, or of a WORK before it, is no matter. */
    @Edge(promise = 0, says = SPOT_TOLD_LAST)
    static void spotIsNoughtAgain(Talk t) {
        LaceWorks x = t.of("2C", "T");
        t.is("behind 2C on another pad", t.script(x, 1), "0T");
        t.pad(x, "1C");
        t.pad(x, "P");
        x.work(2);
        t.is("behind 1C that was wiped", t.script(x, 2), "0P");
        t.pad(x, "2((C)9)9");
        x.work(3);
        t.put(x, 3, "P");
        t.is("behind a refused pad", t.script(x, 3), "0P");
    }

    @Edge(promise = 0, says = SPOT_TOLD_LAST)
    static void spotGoesThroughParts(Talk t) {
        reads(t, "(C1)2P", "0C1CP");
        reads(t, "((C1)2T)2", "0C1CTCCT");
        reads(t, "(((C1)2D2)2T0)2", "0C1CD2C1CD2T0C1CD2C1CD2T");
        reads(t, "(1C)2D", "1CCD");
        reads(t, "(C2)3", "0C2CC");
    }

    @Edge(promise = 0, says = SPOT_TOLD_LAST)
    static void spotOfPartsWithoutSteps(Talk t) {
        reads(t, "(1)3C", "1C");
        reads(t, "((2)9C0)2", "2CC");
        reads(t, "(12)9(C)2", "2CC");
        reads(t, "2()9C", "2C");
    }

    @Edge(promise = 0, says = "of figures 0 to 2 (from there on SPOT is that)")
    static void greatestFigure(Talk t) {
        faultIs(t, "0", NONE);
        faultIs(t, "1", NONE);
        faultIs(t, "2", NONE);
        for (char figure = '3'; figure <= '9'; figure++) {
            faultIs(t, "" + figure, 0);
            faultIs(t, "C" + figure, 1);
            faultIs(t, "(C)2" + figure, 4);
        }
        faultIs(t, "/", 0);
    }

    @Edge(promise = 0, says = "of figures 0 to 2 (from there on SPOT is that)")
    static void figuresAlone(Talk t) {
        LaceWorks x = new LaceWorks();
        t.pad(x, "0120120120120120120120120120120120120120");
        t.is("40 figures: fault()", x.fault(), NONE);
        t.is("40 figures: work(0)", x.work(0), 0);
        reads(t, "01212T", "2T");
        reads(t, "2C0", "2C");
    }

    @Edge(promise = 0, says = PARTS)
    static void timesAreOneToNine(Talk t) {
        for (int times = 1; times <= 9; times++) {
            faultIs(t, "(C)" + times, NONE);
            t.is("(C)" + times, t.of("(C)" + times).step(0, -1, 0), times);
        }
        faultIs(t, "(C)0", 3);
        faultIs(t, "(C)/", 3);
        faultIs(t, "(C):", 3);
    }

    @Edge(promise = 0, says = PARTS)
    static void nothingButTimesBehindAnEnd(Talk t) {
        for (char sign : "CDTUP()!~".toCharArray()) {
            faultIs(t, "(C)" + sign, 3);
        }
        faultIs(t, "((C))2", 4);
    }

    @Edge(promise = 0, says = PARTS)
    static void emptyPart(Talk t) {
        faultIs(t, "()1", NONE);
        faultIs(t, "((()9)9)9", NONE);
        t.is("()9: STEPS", t.of("()9").step(0, -1, 0), 0);
        reads(t, "()9C()1T", "0CT");
        reads(t, "C((()9)9)9T", "0CT");
    }

    @Edge(promise = 0, says = PARTS)
    static void wholePartEachTime(Talk t) {
        reads(t, "(CT)3", "0CTCTCT");
        reads(t, "D(CT)2U", "0DCTCTU");
        reads(t, "((CD)2T)2", "0CDCDTCDCDT");
        reads(t, "(C)1", "0C");
        reads(t, "(C)2(T)3", "0CCTTT");
    }

    @Edge(promise = 0, says = PARTS)
    static void endWithoutBegin(Talk t) {
        faultIs(t, ")", 0);
        faultIs(t, "C)1", 1);
        faultIs(t, "(C)1)1", 4);
        faultIs(t, "((C)1)1)1", 7);
    }

    @Edge(promise = 0, says = MOST_OPEN)
    static void threeOpen(Talk t) {
        faultIs(t, "(((C)1)2)3", NONE);
        t.is("(((C)1)2)3", t.of("(((C)1)2)3").step(0, -1, 0), 6);
        faultIs(t, "(((", 3);
    }

    @Edge(promise = 0, says = MOST_OPEN)
    static void fourOpen(Talk t) {
        faultIs(t, "((((", 3);
        faultIs(t, "((((C)1)1)1)1", 3);
        faultIs(t, "C(T(D(U(", 7);
    }

    /** Those that are ended do not count. */
    @Edge(promise = 0, says = MOST_OPEN)
    static void openAgain(Talk t) {
        faultIs(t, "(()1()1()1()1)1", NONE);
        faultIs(t, "((()1()1)1(()1)1)1", NONE);
        faultIs(t, "()1()1()1()1()1", NONE);
        faultIs(t, "((()1(", 6);
        faultIs(t, "((()1((", 6);
        reads(t, "((C(T)2(D)2)1)2", "0CTTDDCTTDD");
    }

    @Edge(promise = 0, says = "The figure behind a ) is no SPOT.")
    static void timesAreNoSpot(Talk t) {
        reads(t, "(C)1C", "0CC");
        reads(t, "(C)2C", "0CCC");
        reads(t, "1(C)2T", "1CCT");
        reads(t, "(C)12C", "0C2C");
        reads(t, "(C)20C", "0CCC");
    }

    @Edge(promise = 0, says = "(So (C1)2 is C with SPOT 0, then C with SPOT 1; 2(CT)2 is C, T, C, T, all with SPOT 2.)")
    static void examplesOfTheDocument(Talk t) {
        reads(t, "(C1)2", "0C1C");
        reads(t, "2(CT)2", "2CTCT");
    }

    @Edge(promise = 0, says = FIRST_FAULT)
    static void firstOfSeveral(Talk t) {
        faultIs(t, "!!", 0);
        faultIs(t, "C!!", 1);
        faultIs(t, "(X)0", 1);
        faultIs(t, "CC)(", 2);
        faultIs(t, "C3(", 1);
    }

    @Edge(promise = 0, says = FIRST_FAULT)
    static void lastOfFortyCannotStand(Talk t) {
        faultIs(t, "C".repeat(39) + ")", 39);
        faultIs(t, "C".repeat(39) + "3", 39);
    }

    @Edge(promise = 0, says = MORE_MUST_COME)
    static void endIsMissing(Talk t) {
        faultIs(t, "(", 1);
        faultIs(t, "(C", 2);
        faultIs(t, "C(T", 3);
        faultIs(t, "((C)1", 5);
        faultIs(t, "((C)12", 6);
    }

    @Edge(promise = 0, says = MORE_MUST_COME)
    static void timesAreMissing(Talk t) {
        faultIs(t, "()", 2);
        faultIs(t, "(C)", 3);
        faultIs(t, "((C)1)", 6);
    }

    /** A sign that cannot stand comes ahead of what is missing behind it. */
    @Edge(promise = 0, says = MORE_MUST_COME)
    static void onlyIfNoneSuch(Talk t) {
        faultIs(t, "(!", 1);
        faultIs(t, "((3", 2);
    }

    @Edge(promise = 0, says = MORE_MUST_COME)
    static void moreMustComeOnAFullPad(Talk t) {
        faultIs(t, "C".repeat(39) + "(", 40);
        faultIs(t, "(" + "C".repeat(38) + ")", 40);
    }

    @Edge(promise = 0, says = "else NONE.")
    static void noFault(Talk t) {
        faultIs(t, "C1T2U0PD", NONE);
        faultIs(t, "(C)9", NONE);
        faultIs(t, "(" + "C".repeat(37) + ")9", NONE);
    }
}
