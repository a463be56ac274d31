/** For each promise of the document: ordinary inputs, the edges that it names, and wrong inputs. */
public final class PromisesTest {
    private static final Due due = new Due();
    private static final Talk talk = new Talk(due);
    private static final int MIN = Integer.MIN_VALUE, MAX = Integer.MAX_VALUE;
    private static final int[] NO_WORKS = {-1, 4, MIN, MAX};

    public static void main(String[] args) {
        newObject();
        say();
        wipe();
        fault();
        work();
        spotsOfParts();
        join();
        undone();
        step();
        written();
        at();
        met();
        told();
        pin();
        letter();
        shortest();
        same();
        part();
        image();
        restore();
        count();
        orderOfRefusals();
        due.end();
    }

    private static void reads(String text, String want) {
        LaceWorks x = talk.of(text);
        due.is(text + " as written", talk.script(x, 0), want);
    }

    // Promise 1
    private static void newObject() {
        LaceWorks x = new LaceWorks();
        for (int w = 0; w < 4; w++) {
            due.is("new: step(w, -1, 0)", x.step(w, -1, 0), 0);
        }
        due.is("new: count(0)", x.count(0), 0);
        due.is("new: count(1)", x.count(1), 0);
        due.is("new: count(2)", x.count(2), LaceWorks.NONE);
        due.is("new: count(3)", x.count(3), 0);
        due.is("new: fault()", x.fault(), LaceWorks.NONE);
        due.is("new: wipe()", x.wipe(), 0);
        due.is("new: restore(0)", x.restore(0), LaceWorks.STATE);
        due.is("new: restore(1)", x.restore(1), LaceWorks.STATE);
        LaceWorks y = talk.of("CT");
        due.is("another object", x.step(0, -1, 0) + 10 * y.step(0, -1, 0), 20);
    }

    // Promise 2
    private static void say() {
        LaceWorks x = new LaceWorks();
        for (int sign : new int[] {32, 127, 0, -1, MIN, MAX, 256 + 67, 65536 + 67}) {
            due.is("say(" + sign + ")", x.say(sign), LaceWorks.OUTSIDE);
        }
        due.is("say(33)", x.say(33), 1);
        due.is("say(126)", x.say(126), 2);
        for (int i = 3; i <= 40; i++) {
            due.is("say, the next", x.say('C'), i);
        }
        due.is("say, the 41st", x.say('C'), LaceWorks.FULL);
        due.is("say, the 41st, outside", x.say(32), LaceWorks.OUTSIDE);
        due.is("count(0) of a full pad", x.count(0), 40);
        x.wipe();
        due.is("say after wipe", x.say('C'), 1);
    }

    // Promise 3
    private static void wipe() {
        LaceWorks x = talk.of("CT");
        talk.pad(x, "((");
        x.work(0);
        due.is("wipe()", x.wipe(), 2);
        due.is("wipe() again", x.wipe(), 0);
        due.is("wipe() leaves the works", x.step(0, -1, 0), 2);
        due.is("wipe() leaves the told fault", x.count(2), 2);
        talk.pad(x, "T");
        due.is("work after wipe", x.work(0), 1);
        due.is("the new sign alone", x.step(0, 0, 0), 2);
    }

    // Promise 4
    private static void fault() {
        String forty = "CDTUP012CDTUP012CDTUP012CDTUP012CDTUP012";
        String[] good = {"", "C", "012", "C1T2U0PD", "()1", "(C)9", "((()1)2)3", "(C)1(C)2", "(C)12", "(C)1(((D)1)1)1",
            "(()1()1()1)1", forty};
        for (String t : good) {
            faultOf(t, LaceWorks.NONE);
        }
        faultOf("3", 0);
        faultOf("9", 0);
        faultOf("C3", 1);
        faultOf("c", 0);
        faultOf("CA", 1);
        faultOf("C-", 1);
        faultOf("~", 0);
        faultOf(")", 0);
        faultOf("(C)2)", 4);
        faultOf("(C)0", 3);
        faultOf("(C)C", 3);
        faultOf("(C)(", 3);
        faultOf("(C))", 3);
        faultOf("((C))", 4);
        faultOf("(C)10", LaceWorks.NONE);
        faultOf("(C)13", 4);
        faultOf("(((C)1)1)1", LaceWorks.NONE);
        faultOf("((((", 3);
        faultOf("((()1(", 6);
        faultOf("((()1((", 6);
        faultOf("(", 1);
        faultOf("(C", 2);
        faultOf("(C)", 3);
        faultOf("((C)1", 5);
        faultOf("(X)0", 1);
        faultOf(forty.substring(1) + "(", 40);
        faultOf("(" + forty.substring(2) + ")", 40);
        faultOf(forty.substring(1) + ")", 39);
        LaceWorks x = new LaceWorks();
        talk.pad(x, "C!");
        due.is("fault() tells", x.fault(), 1);
        due.is("fault() keeps nothing", x.count(2), LaceWorks.NONE);
        due.is("fault() leaves the pad", x.count(0), 2);
    }

    private static void faultOf(String t, int want) {
        LaceWorks x = new LaceWorks();
        talk.pad(x, t);
        due.is("fault() of " + t, x.fault(), want);
        int answer = x.work(0);
        due.is("work() of " + t, answer == LaceWorks.FAULT ? 1 : 0, want == LaceWorks.NONE ? 0 : 1);
        due.is("count(2) of " + t, x.count(2), want);
    }

    // Promise 5
    private static void work() {
        LaceWorks x = new LaceWorks();
        for (int w : NO_WORKS) {
            due.is("work(" + w + ")", x.work(w), LaceWorks.UNKNOWN);
        }
        due.is("work of nothing", x.work(3), 0);
        talk.pad(x, "C1T2UPD");
        due.is("work(3)", x.work(3), 5);
        due.is("the pad is empty then", x.count(0), 0);
        due.is("work again: without STEPS", x.work(3), 0);
        talk.pad(x, "((C)6(T)4)6");
        due.is("work of 60", x.work(0), 60);
        talk.pad(x, "((C)6(T)4)6P");
        due.is("work of 61", x.work(0), LaceWorks.FULL);
        due.is("FULL leaves the pad", x.count(0), 12);
        due.is("FULL leaves the WORK", x.step(0, -1, 0), 60);
        due.is("FULL is no FAULT", x.count(2), LaceWorks.NONE);
        talk.pad(x, "(((PPPPPPPPPPPPPPPPPPPPPPPPPPPPPPPP)9)9)9");
        due.is("FULL by far, but 41 signs", x.work(0), LaceWorks.FAULT);
        talk.pad(x, "(((PPPPPPPPPPPPPPPPPPPPPPPPPPPPPPP)9)9)9");
        due.is("FULL by far", x.work(0), LaceWorks.FULL);
        talk.pad(x, "(((0120120120120120120120120120120)9)9)9");
        due.is("only figures", x.work(0), 0);
        talk.pad(x, "T(");
        due.is("a pad that is no TEXT", x.work(1), LaceWorks.FAULT);
        due.is("FAULT leaves the pad", x.count(0), 2);
        due.is("FAULT leaves the WORK", x.step(1, -1, 0), 0);
    }

    private static void spotsOfParts() {
        reads("C", "0C");
        reads("1C", "1C");
        reads("(C1)2", "0C1C");
        reads("2(CT)2", "2CTCT");
        reads("(C1)2P", "0C1CP");
        reads("(1)3C", "1C");
        reads("((2)9C0)2", "2CC");
        reads("((2)9C0C)2", "2C0C2C0C");
        reads("(C)1C", "0CC");
        reads("(C)12C", "0C2C");
        reads("(C)11C", "0C1C");
        reads("(C)2(1T)2", "0CC1TT");
        reads("((C1)2T)2", "0C1CTCCT");
        reads("(((C1)2D2)2T0)2", "0C1CD2C1CD2T0C1CD2C1CD2T");
        reads("(C2)3", "0C2CC");
        reads("01212T", "2T");
        reads("()9C", "0C");
        reads("(P)3U", "0PPPU");
    }

    // Promise 6
    private static void join() {
        LaceWorks x = talk.of("C1T", "2U", "((C)6(T)4)3");
        for (int w : NO_WORKS) {
            due.is("join, to", x.join(w, 0, 1), LaceWorks.UNKNOWN);
            due.is("join, a", x.join(0, w, 1), LaceWorks.UNKNOWN);
            due.is("join, b", x.join(0, 1, w), LaceWorks.UNKNOWN);
        }
        due.is("join(3, 0, 1)", x.join(3, 0, 1), 3);
        due.is("join(3, 0, 1)", talk.script(x, 3), "0C1T2U");
        due.is("join leaves a", talk.script(x, 0), "0C1T");
        due.is("join leaves b", talk.script(x, 1), "2U");
        due.is("join(1, 0, 1)", x.join(1, 0, 1), 3);
        due.is("join to b", talk.script(x, 1), "0C1T2U");
        due.is("join(0, 0, 1)", x.join(0, 0, 1), 5);
        due.is("join to a", talk.script(x, 0), "0C1T0C1T2U");
        due.is("join(0, 0, 0)", x.join(0, 0, 0), 10);
        due.is("join, all the same", talk.script(x, 0), "0C1T0C1T2U0C1T0C1T2U");
        due.is("join to 60", x.join(3, 2, 2), 60);
        talk.put(x, 0, "P");
        due.is("join to 61", x.join(0, 3, 0), LaceWorks.FULL);
        due.is("FULL leaves it", x.step(0, -1, 0), 1);
        due.is("join 60 to nothing", talk.put(x, 1, "") + x.join(2, 1, 3), 60);
        due.is("join nothing to nothing", x.join(0, 1, 1), 0);
        x = talk.of("C", "T");
        talk.pad(x, "UU");
        x.join(3, 0, 1);
        due.is("join leaves the pad", x.count(0), 2);
    }

    // Promise 7
    private static void undone() {
        LaceWorks x = talk.of("C1D2T0UP");
        for (int w : NO_WORKS) {
            due.is("undone, to", x.undone(w, 0), LaceWorks.UNKNOWN);
            due.is("undone, from", x.undone(0, w), LaceWorks.UNKNOWN);
        }
        due.is("undone(1, 0)", x.undone(1, 0), 5);
        due.is("undone(1, 0)", talk.script(x, 1), "0PT2U1C0D");
        due.is("undone leaves from", talk.script(x, 0), "0C1D2T0UP");
        due.is("undone(0, 0)", x.undone(0, 0), 5);
        due.is("undone(0, 0)", talk.script(x, 0), "0PT2U1C0D");
        due.is("undone of nothing", x.undone(0, 2), 0);
        due.is("undone of nothing", x.step(0, -1, 0), 0);
    }

    // Promise 8
    private static void step() {
        LaceWorks x = talk.of("C1D2T0UP");
        int[] kinds = {0, 1, 2, 3, 4};
        int[] spots = {0, 1, 2, 0, 0};
        for (int i = 0; i < 5; i++) {
            due.is("step, kind", x.step(0, i, 0), kinds[i]);
            due.is("step, spot", x.step(0, i, 1), spots[i]);
        }
        due.is("step(0, -1, 0)", x.step(0, -1, 0), 5);
        due.is("step(0, -1, 1)", x.step(0, -1, 1), 5);
        due.is("step(0, -1, 2)", x.step(0, -1, 2), LaceWorks.OUTSIDE);
        due.is("step(0, -1, -1)", x.step(0, -1, -1), LaceWorks.OUTSIDE);
        due.is("step(0, 5, 0)", x.step(0, 5, 0), LaceWorks.NONE);
        due.is("step(0, MAX, 1)", x.step(0, MAX, 1), LaceWorks.NONE);
        due.is("step(0, 5, 2)", x.step(0, 5, 2), LaceWorks.OUTSIDE);
        due.is("step(0, -2, 0)", x.step(0, -2, 0), LaceWorks.OUTSIDE);
        due.is("step(0, MIN, 0)", x.step(0, MIN, 0), LaceWorks.OUTSIDE);
        for (int w : NO_WORKS) {
            due.is("step, no WORK", x.step(w, -2, 7), LaceWorks.UNKNOWN);
        }
    }

    // Promise 9
    private static void written() {
        LaceWorks x = talk.of("C1D2T0UP", "1(C)3", "", "((C1T0)5)6");
        due.is("written", talk.script(x, 0), "0C1D2T0UP");
        due.is("written, one spot", talk.script(x, 1), "1CCC");
        due.is("written, nothing", x.written(2, -1), 0);
        due.is("written, the longest", x.written(3, -1), 120);
        due.is("written, its last", x.written(3, 119), 'T');
        due.is("written, behind it", x.written(3, 120), LaceWorks.NONE);
        due.is("written(0, 9)", x.written(0, 9), LaceWorks.NONE);
        due.is("written(0, MAX)", x.written(0, MAX), LaceWorks.NONE);
        due.is("written(0, -2)", x.written(0, -2), LaceWorks.OUTSIDE);
        due.is("written(0, MIN)", x.written(0, MIN), LaceWorks.OUTSIDE);
        for (int w : NO_WORKS) {
            due.is("written, no WORK", x.written(w, -2), LaceWorks.UNKNOWN);
        }
    }

    // Promise 10
    private static void at() {
        LaceWorks x = talk.of("CTP1C2TD", "D1U");
        due.is("at 0", talk.lying(x, 0, 0), "01234567");
        due.is("at 1: C", talk.lying(x, 0, 1), "02134567");
        due.is("at 2: T", talk.lying(x, 0, 2), "20314567");
        due.is("at 3: P", talk.lying(x, 0, 3), "20314567");
        due.is("at 4: 1C", talk.lying(x, 0, 4), "20341567");
        due.is("at 5: 2T", talk.lying(x, 0, 5), "20345176");
        due.is("at 6: 2D", talk.lying(x, 0, 6), "20345716");
        due.is("at D, 1U", talk.lying(x, 1, 2), "02315467");
        due.is("at(0, 7, 0)", x.at(0, 7, 0), LaceWorks.OUTSIDE);
        due.is("at(0, -1, 0)", x.at(0, -1, 0), LaceWorks.OUTSIDE);
        due.is("at(0, 0, -1)", x.at(0, 0, -1), LaceWorks.OUTSIDE);
        due.is("at(0, 0, 8)", x.at(0, 0, 8), LaceWorks.OUTSIDE);
        due.is("at(0, MAX, MIN)", x.at(0, MAX, MIN), LaceWorks.OUTSIDE);
        for (int w : NO_WORKS) {
            due.is("at, no WORK", x.at(w, -1, 8), LaceWorks.UNKNOWN);
        }
    }

    // Promise 11
    private static void met() {
        LaceWorks x = talk.of("P(C)3D", "T", "U", "CT");
        due.is("met: how often", x.met(0, 1, 2, 0), 4);
        due.is("met: 1 over 2", x.met(0, 1, 2, 1), 3);
        due.is("met: 2 over 1", x.met(0, 2, 1, 1), 1);
        due.is("met: first", x.met(0, 1, 2, 2), 1);
        due.is("met: first, the other way", x.met(0, 2, 1, 2), 1);
        due.is("T: the right one over", x.met(1, 1, 0, 1), 1);
        due.is("T: the left one not", x.met(1, 0, 1, 1), 0);
        due.is("T: the second two", x.met(1, 3, 2, 1), 1);
        due.is("U: the left one over", x.met(2, 0, 1, 1), 1);
        due.is("U: the right one not", x.met(2, 1, 0, 1), 0);
        due.is("never: how often", x.met(1, 0, 2, 0), 0);
        due.is("never: over", x.met(1, 0, 2, 1), 0);
        due.is("never: first", x.met(1, 0, 2, 2), LaceWorks.NONE);
        due.is("C T: 1 and 3", x.met(3, 3, 1, 1), 1);
        due.is("C T: first of 0 and 2", x.met(3, 0, 2, 2), 1);
        int[][] outside = {{-1, 0, 0}, {8, 0, 0}, {0, -1, 0}, {0, 8, 0}, {3, 3, 0}, {0, 1, -1}, {0, 1, 3}, {MIN, MAX, MIN}};
        for (int[] o : outside) {
            due.is("met, outside", x.met(0, o[0], o[1], o[2]), LaceWorks.OUTSIDE);
        }
        for (int w : NO_WORKS) {
            due.is("met, no WORK", x.met(w, 3, 3, 3), LaceWorks.UNKNOWN);
        }
    }

    private static void toldOf(String t, int... want) {
        LaceWorks x = talk.of(t);
        for (int what = 0; what < want.length; what++) {
            due.is("told(0, " + what + ") of " + t, x.told(0, what), want[what]);
        }
    }

    // Promise 12
    private static void told() {
        toldOf("", 0, 0, 0, 1, 8, 255);
        toldOf("PPP", 3, 0, 3, 1, 8, 255);
        toldOf("C", 1, 1, 0, 2, 6, 255 - 6);
        toldOf("CD", 2, 2, 0, 1, 8, 255 - 6);
        toldOf("T1P", 2, 2, 1, 2, 4, 240);
        toldOf("CT", 2, 3, 0, 4, 4, 240);
        toldOf("2CT", 2, 3, 0, 4, 4, 15);
        toldOf("C1C2C", 3, 3, 0, 2, 2, 1 + 128);
        toldOf("C1T", 2, 3, 0, 6, 3, 1 + 64 + 128);
        LaceWorks x = talk.of("0T(1T)2C1TC", "0TC2TC", "C0T1C2T", "0TC1C2CT");
        for (int w = 0; w < 4; w++) {
            due.is("told(w, 3)", x.told(w, 3), turns(x, w));
        }
        due.is("told(0, 6)", x.told(0, 6), LaceWorks.OUTSIDE);
        due.is("told(0, -1)", x.told(0, -1), LaceWorks.OUTSIDE);
        due.is("told(0, MAX)", x.told(0, MAX), LaceWorks.OUTSIDE);
        due.is("told(0, MIN)", x.told(0, MIN), LaceWorks.OUTSIDE);
        for (int w : NO_WORKS) {
            due.is("told, no WORK", x.told(w, 6), LaceWorks.UNKNOWN);
        }
        mostTurns();
    }

    private static int turns(LaceWorks x, int work) {
        int[] lie = new int[8];
        for (int p = 0; p < 8; p++) {
            lie[p] = p;
        }
        for (int n = 1; n < 1000; n++) {
            int[] then = new int[8];
            boolean asAtFirst = true;
            for (int p = 0; p < 8; p++) {
                then[p] = lie[x.at(work, x.step(work, -1, 0), p)];
                asAtFirst &= then[p] == p;
            }
            lie = then;
            if (asAtFirst) {
                return n;
            }
        }
        return 0;
    }

    /** Rings of 3 and 5 need 15 times, the most that eight BOBBINS can need: one is among many WORKS. */
    private static void mostTurns() {
        java.util.Random random = new java.util.Random(15);
        int most = 0;
        for (int i = 0; i < 3000; i++) {
            StringBuilder t = new StringBuilder();
            for (int k = 0; k < 30; k++) {
                t.append("CT012".charAt(random.nextInt(5)));
            }
            LaceWorks x = talk.of(t.toString());
            due.is("told(0, 3) of " + t, x.told(0, 3), turns(x, 0));
            most = Math.max(most, x.told(0, 3));
        }
        due.is("the most times", most, 15);
    }

    // Promise 13
    private static void pin() {
        LaceWorks x = talk.of("PC1P2TPP", "(C1P)3", "CT");
        int[][] want = {{0, 0, 1, 2}, {2, 1, 3, 4}, {4, 2, 4, 7}, {5, 2, 4, 7}};
        for (int i = 0; i < want.length; i++) {
            for (int what = 0; what < 4; what++) {
                due.is("pin(0, " + i + ", " + what + ")", x.pin(0, i, what), want[i][what]);
            }
        }
        for (int i : new int[] {-1, 4, MIN, MAX, -6}) {
            for (int what = 0; what < 4; what++) {
                due.is("pin(0, " + i + ", " + what + ")", x.pin(0, i, what), LaceWorks.NONE);
                due.is("no PIN", x.pin(2, i, what), LaceWorks.NONE);
            }
            due.is("pin, outside", x.pin(0, i, 4), LaceWorks.OUTSIDE);
            due.is("pin, outside", x.pin(0, i, -1), LaceWorks.OUTSIDE);
        }
        due.is("pin(1, 1, 2)", x.pin(1, 1, 2), 4);
        due.is("pin(1, 1, 3)", x.pin(1, 1, 3), 3);
        for (int w : NO_WORKS) {
            due.is("pin, no WORK", x.pin(w, 0, 4), LaceWorks.UNKNOWN);
        }
    }

    // Promise 14
    private static void letter() {
        LaceWorks x = talk.of("CDTUP1CDTUP2CDTUP", "", "2((TU)6)5");
        int[] want = {10, 11, 1, 21, 0, 20, 30, 31, 21, 41, 20, 40, 50, 51, 41, 61, 40, 60};
        due.is("letter(0, -1)", x.letter(0, -1), want.length);
        for (int i = 0; i < want.length; i++) {
            due.is("letter(0, " + i + ")", x.letter(0, i), want[i]);
        }
        due.is("letter, behind", x.letter(0, want.length), LaceWorks.NONE);
        due.is("letter(0, MAX)", x.letter(0, MAX), LaceWorks.NONE);
        due.is("letter of nothing", x.letter(1, 0), LaceWorks.NONE);
        due.is("letter of nothing", x.letter(1, -1), 0);
        due.is("the most", x.letter(2, -1), 120);
        due.is("the last", x.letter(2, 119), 60);
        due.is("letter(0, -2)", x.letter(0, -2), LaceWorks.OUTSIDE);
        due.is("letter(0, MIN)", x.letter(0, MIN), LaceWorks.OUTSIDE);
        for (int w : NO_WORKS) {
            due.is("letter, no WORK", x.letter(w, -2), LaceWorks.UNKNOWN);
        }
    }

    private static void shortOf(String t, String want) {
        due.is("the short form of " + t, talk.shortForm(talk.of(t), 0), want);
    }

    // Promise 15
    private static void shortest() {
        shortOf("", "");
        shortOf("CD", "");
        shortOf("DC", "");
        shortOf("CPD", "");
        shortOf("CC", "10 10");
        shortOf("TU", "");
        shortOf("CTUD", "");
        shortOf("2C0C", "10 50");
        shortOf("2C1C0C", "10 30 50");
        shortOf("2C1T0C", "21 10 50 41");
        shortOf("C2T0D", "41 61");
        shortOf("1T0T", "1 21 21 41");
        shortOf("1T0U", "0 41");
        shortOf("CTD", "10 1 21 11");
        shortOf("CTDCU", "10");
        shortOf("2D0U", "0 20 51");
        shortOf("T1C0U", "21 30 20");
        shortOf("1T0C1U", "21 10 20");
        LaceWorks x = talk.of("T((CT)5)5", "2((T)6)9", "2((T)6)5(U)6");
        due.is("none goes", x.shortest(1, -1), 2 * 54);
        due.is("some go", x.shortest(2, -1), 2 * 24);
        due.is("in order", x.shortest(1, 53) * 100 + x.shortest(1, 54), 4161);
        due.is("shortest, behind", x.shortest(1, 108), LaceWorks.NONE);
        due.is("shortest(0, MAX)", x.shortest(0, MAX), LaceWorks.NONE);
        due.is("shortest of nothing", x.shortest(3, -1), 0);
        due.is("shortest of nothing", x.shortest(3, 0), LaceWorks.NONE);
        due.is("shortest(0, -2)", x.shortest(0, -2), LaceWorks.OUTSIDE);
        due.is("shortest(0, MIN)", x.shortest(0, MIN), LaceWorks.OUTSIDE);
        for (int w : NO_WORKS) {
            due.is("shortest, no WORK", x.shortest(w, -2), LaceWorks.UNKNOWN);
        }
    }

    private static void sameAre(String one, String other, int want) {
        LaceWorks x = talk.of(one, other);
        due.is("same: " + one + " " + other, x.same(0, 1), want);
        due.is("same: " + other + " " + one, x.same(1, 0), want);
        due.is("same with itself: " + one, x.same(0, 0), 1);
    }

    // Promise 16
    private static void same() {
        sameAre("", "", 1);
        sameAre("", "P", 1);
        sameAre("", "CD", 1);
        sameAre("", "C", 0);
        sameAre("C", "D", 0);
        sameAre("T", "U", 0);
        sameAre("C", "CC", 0);
        sameAre("C2C", "2C0C", 1);
        sameAre("C1C", "1C0C", 1);
        sameAre("CT", "TC", 0);
        sameAre("1T0T", "T1T", 1);
        // The rule of braids that three crossings side by side may be turned is none of the MOVES.
        sameAre("TCT", "CTC", 0);
        sameAre("C1PC", "1CP0C", 1);
        LaceWorks x = talk.of("CT");
        for (int w : NO_WORKS) {
            due.is("same, one", x.same(w, 0), LaceWorks.UNKNOWN);
            due.is("same, other", x.same(0, w), LaceWorks.UNKNOWN);
        }
    }

    private static void partOf(String t, int want) {
        due.is("part of " + t, talk.of(t).part(0), want);
    }

    // Promise 17
    private static void part() {
        partOf("", 0);
        partOf("C", 1);
        partOf("CC", 1);
        partOf("CD", 2);
        partOf("CTCT", 2);
        partOf("CTC", 3);
        partOf("CTCTC", 5);
        partOf("C1C", 2);
        partOf("(C1C0)3", 2);
        partOf("(C1C)3", 6);
        partOf("((P)6)9(P)6", 1);
        partOf("(CCT)9", 3);
        partOf("(CCTCC)9", 5);
        partOf("((C)6T)6", 7);
        partOf("(CTCTCU)5", 6);
        LaceWorks x = talk.of("C");
        for (int w : NO_WORKS) {
            due.is("part, no WORK", x.part(w), LaceWorks.UNKNOWN);
        }
    }

    // Promise 18
    private static void image() {
        LaceWorks x = talk.of("CT", "P");
        for (int k : new int[] {-1, 2, MIN, MAX}) {
            due.is("image, outside", x.image(k), LaceWorks.OUTSIDE);
        }
        due.is("image(1)", x.image(1), 1);
        due.is("count(3)", x.count(3), 2);
        talk.put(x, 0, "UUU");
        due.is("image(1), in place of it", x.image(1), 1);
        talk.put(x, 0, "");
        due.is("restore(1)", x.restore(1), 1);
        due.is("the later one", talk.script(x, 0), "0UUU");
        due.is("image(0)", x.image(0), 1);
        due.is("count(3)", x.count(3), 3);
    }

    // Promise 19
    private static void restore() {
        LaceWorks x = talk.of("CT", "P", "1U", "2D");
        for (int k : new int[] {-1, 2, MIN, MAX}) {
            due.is("restore, outside", x.restore(k), LaceWorks.OUTSIDE);
        }
        due.is("restore(0), nothing kept", x.restore(0), LaceWorks.STATE);
        x.image(0);
        due.is("restore(1), nothing kept", x.restore(1), LaceWorks.STATE);
        talk.put(x, 0, "C");
        talk.put(x, 1, "");
        talk.put(x, 2, "DDDD");
        x.image(1);
        talk.pad(x, "T(");
        x.work(3);
        due.is("restore(0)", x.restore(0), 1);
        due.is("WORK 0", talk.script(x, 0), "0CT");
        due.is("WORK 1", talk.script(x, 1), "0P");
        due.is("WORK 2", talk.script(x, 2), "1U");
        due.is("WORK 3", talk.script(x, 3), "2D");
        due.is("the pad stays", x.count(0), 2);
        due.is("the told fault stays", x.count(2), 2);
        due.is("the images stay", x.count(3), 3);
        x.undone(0, 2);
        due.is("restore(0) again", x.restore(0), 1);
        due.is("the image was not changed", talk.script(x, 0), "0CT");
        due.is("restore(1)", x.restore(1), 1);
        due.is("the other image", talk.script(x, 2), "0DDDD");
    }

    // Promise 20
    private static void count() {
        LaceWorks x = talk.of("CT", "P");
        due.is("count(1)", x.count(1), 3);
        talk.pad(x, "C)D");
        due.is("count(0)", x.count(0), 3);
        due.is("count(2): none yet", x.count(2), LaceWorks.NONE);
        x.work(7);
        due.is("count(2): UNKNOWN tells none", x.count(2), LaceWorks.NONE);
        x.work(2);
        due.is("count(2)", x.count(2), 1);
        talk.put(x, 2, "TTT");
        due.is("count(2) stays", x.count(2), 1);
        due.is("count(1)", x.count(1), 6);
        talk.pad(x, "(C)");
        x.fault();
        due.is("count(2): fault() tells none", x.count(2), 1);
        x.work(2);
        due.is("count(2): another one", x.count(2), 3);
        x.image(0);
        due.is("count(3)", x.count(3), 1);
        for (int what : new int[] {-1, 4, MIN, MAX}) {
            due.is("count, outside", x.count(what), LaceWorks.OUTSIDE);
        }
        x = talk.of("((C)6)9(C)6", "((C)6)9(C)6", "((C)6)9(C)6", "((C)6)9(C)6");
        due.is("count(1): the most", x.count(1), 240);
    }

    private static void orderOfRefusals() {
        LaceWorks x = talk.of("((C)6)9(C)6");
        talk.pad(x, "(((C)9)9)9(");
        due.is("UNKNOWN ahead of FAULT", x.work(4), LaceWorks.UNKNOWN);
        due.is("FAULT ahead of FULL", x.work(0), LaceWorks.FAULT);
        due.is("UNKNOWN ahead of FULL", x.join(4, 0, 0), LaceWorks.UNKNOWN);
        due.is("OUTSIDE ahead of NONE", x.step(0, 60, 2), LaceWorks.OUTSIDE);
        due.is("OUTSIDE ahead of STATE", x.restore(2), LaceWorks.OUTSIDE);
        due.is("all is as it was", x.step(0, -1, 0), 60);
    }
}
