/** Climbs, sentence by sentence: each boundary that the document names for STEPS, CLIMBS and promises 10 to 15. */
public final class ClimbEdgeTest {
    private static final int NONE = OldLadder.NONE;
    private static final int UNKNOWN = OldLadder.UNKNOWN;
    private static final int NOT = OldLadder.NOT;
    private static final String[] KINDS = {"far", "near", "middle", "told"};
    private static final int[] FAR_OFF = {
        Integer.MIN_VALUE, Integer.MIN_VALUE + 1, -65536, -33, -32, -31, -1, 32, 33, 64, 65536, Integer.MAX_VALUE};
    private static final Due DUE = new Due();

    public static void main(String[] args) {
        stepsUpOnly();
        stepsAsFarAsStride();
        stepsToFreeRungs();
        stepsToTheTop();
        stepsOfNone();
        climbsToTheTopFirst();
        climbsByKind();
        middleOfSo();
        toldByWhatHeMinds();
        staysWhereHeIs();
        climbsFromWhereHeIs();
        climbsOnTheLeastAndGreatest();
        climbsOfNone();
        lowers();
        judgesEachFromTheOneAhead();
        judgesNow();
        judgesSets();
        keeps();
        backAsKept();
        backToWhoStepped();
        backSinceTheLastText();
        imagesOfAll();
        DUE.end("ClimbEdgeTest");
    }

    private static void is(String call, long got, long want) {
        DUE.is(call, got, want);
    }

    private static OldLadder done(String text) {
        return Due.told(text);
    }

    // ---- step

    private static void stepsUpOnly() {
        DUE.about("promise 10: a STEP leads to a RUNG above it");
        OldLadder x = done("ladder 9;far 6");
        is("to 5", x.step(0, 5), 5);
        for (int r = 1; r <= 5; r++) {
            is("not down to " + r, x.step(0, r), NOT);
        }
        is("he is there", x.climber(0, 4), 5);
        is("5 alone is spent", x.count(3), 16);
        is("one up", x.step(0, 6), 6);
    }

    private static void stepsAsFarAsStride() {
        DUE.about("promise 10: as far as STRIDE at most");
        for (int reach = 1; reach <= 6; reach++) {
            for (String kind : KINDS) {
                OldLadder x = done("ladder 20;" + kind + " " + reach);
                is("one beyond", x.step(0, reach + 1), NOT);
                is("nothing is spent", x.count(3), 0);
                is("the furthest", x.step(0, reach), reach);
                is("one beyond", x.step(0, 2 * reach + 1), NOT);
                is("the nearest", x.step(0, reach + 1), reach + 1);
                is("the furthest", x.step(0, 2 * reach + 1), 2 * reach + 1);
            }
        }
        OldLadder y = done("ladder 20;far 6;load 0 4");
        is("with a load", y.step(0, 3), NOT);
        is("with a load", y.step(0, 2), 2);
        OldLadder z = done("ladder 20;far 3;load 0 5");
        is("1 at least", z.step(0, 2), NOT);
        is("1 at least", z.step(0, 1), 1);
    }

    private static void stepsToFreeRungs() {
        DUE.about("promise 10: to a FREE RUNG; a RUNG on which one stepped is SPENT (WEAK ones hold, in fact)");
        OldLadder x = done("ladder 6;gone 2;weak 3 0;weak 4 10;far 6;near 6");
        is("gone", x.step(0, 2), NOT);
        is("weak by 0", x.step(0, 3), 3);
        is("spent", x.rung(3, 2), 0);
        is("weak still", x.rung(3, 0), 1);
        is("by whom", x.rung(3, 3), 0);
        is("spent for another", x.step(1, 3), NOT);
        is("not gone", x.count(4), 2);
        is("weak by 10", x.step(1, 4), 4);
        is("both are spent", x.count(3), 0b1100);
        x.lower(0);
        is("spent for himself", x.step(0, 3), NOT);
        is("refused, he is on the ground", x.climber(0, 4), 0);
    }

    private static void stepsToTheTop() {
        DUE.about("promise 10: or to the TOP; h and 1 the TOP");
        int[] heights = {1, 5, 6, 8, 20};
        for (int h : heights) {
            OldLadder x = done("ladder " + h + ";far 6;near 6");
            is("the top from the ground", x.step(0, h + 1), h + 1 <= 6 ? h + 1 : NOT);
            is("above it", x.step(0, h + 2), UNKNOWN);
            is("nothing is spent", x.count(3), 0);
        }
        OldLadder y = done("ladder 6;far 6;near 6");
        is("one too far", y.step(0, 7), NOT);
        y.step(0, 1);
        is("just in his stride", y.step(0, 7), 7);
        is("no step from there", y.step(0, 7), NOT);
        is("nor down", y.step(0, 6), NOT);
        is("UNKNOWN is ahead of NOT", y.step(0, 8), UNKNOWN);
        is("UNKNOWN is ahead of NOT", y.step(0, 0), UNKNOWN);
        y.step(1, 2);
        is("the top holds many", y.step(1, 7), 7);
        is("both", y.count(5), 3);
        OldLadder z = done("ladder 20;near 1");
        for (int r = 1; r <= 21; r++) {
            is("one by one", z.step(0, r), r);
        }
        is("each is spent", z.count(3), 0xfffff);
        is("he is up", z.count(5), 1);
    }

    private static void stepsOfNone() {
        DUE.about("promise 10: UNKNOWN (no such CLIMBER; RUNG, TOP)");
        OldLadder x = done("ladder 4;far 2;near 2");
        is("climber 2", x.step(2, 1), UNKNOWN);
        is("climber -1", x.step(-1, 1), UNKNOWN);
        is("rung 0", x.step(0, 0), UNKNOWN);
        is("rung 6", x.step(0, 6), UNKNOWN);
        is("the top is one", x.step(0, 5), NOT);
        for (int n : FAR_OFF) {
            is("climber " + n, x.step(n, 1), UNKNOWN);
            is("rung " + n, x.step(1, n), UNKNOWN);
            is("both " + n, x.step(n, n), UNKNOWN);
        }
        is("nothing changes", x.count(3), 0);
        is("nobody at first", new OldLadder().step(0, 1), UNKNOWN);
    }

    // ---- climb

    private static void climbsToTheTopFirst() {
        DUE.about("A CLIMB by KIND: if the TOP is in his STRIDE, he steps there");
        for (String kind : KINDS) {
            for (int h = 1; h <= 8; h++) {
                OldLadder x = done("ladder " + h + ";" + kind + " 6");
                x.mind(0, 1);
                is("up", x.climb(0), h + 1);
                is("from the ground, h " + h, x.count(3) == 0 ? 1 : 0, h <= 5 ? 1 : 0);
            }
        }
    }

    private static void climbsByKind() {
        DUE.about("A CLIMB by KIND: FAR to the highest, NEAR to the lowest, MIDDLE to the middle one");
        OldLadder x = done("ladder 13;gone 5;gone 6;gone 9;far 5");
        is("far", x.climb(0), 14);
        is("4 8 13", x.count(3), 0b1000010001000);
        OldLadder y = done("ladder 13;gone 1;gone 2;gone 9;near 4");
        is("near", y.climb(0), 14);
        is("3 .. 8, 10", y.count(3), 0b0001011111100);
        OldLadder z = done("ladder 13;gone 3;gone 7;middle 5");
        is("middle", z.climb(0), 14);
        // Of 1 2 4 5 the 2nd; of 4 5 6 the 2nd; of 6 8 9 10 the 2nd; of 9 .. 13 the 3rd.
        is("2 5 8 11", z.count(3), 0b0010010010010);
    }

    private static void middleOfSo() {
        DUE.about("A CLIMB by KIND: of k such the one with number (k - 1) / 2, cut, from 0 on, the lowest first");
        int[] middle = {1, 1, 2, 2, 3, 3};
        for (int k = 1; k <= 6; k++) {
            OldLadder x = done("ladder 20;middle " + k);
            is("of " + k, x.as(0, 3), middle[k - 1]);
        }
        for (int set = 1; set < 64; set++) {
            StringBuilder text = new StringBuilder("ladder 7;middle 6");
            int[] left = new int[6];
            int k = 0;
            for (int r = 1; r <= 6; r++) {
                if ((set >> r - 1 & 1) == 1) {
                    left[k] = r;
                    k++;
                } else {
                    text.append(";gone ").append(r);
                }
            }
            is("of the set " + set, done(text.toString()).as(0, 0), left[(k - 1) / 2]);
        }
    }

    private static void toldByWhatHeMinds() {
        DUE.about("A CLIMB by KIND: TOLD to the highest that he minds, if there is none as FAR");
        OldLadder x = done("ladder 12;gone 3;told 4");
        x.mind(0, 0b000000000011);
        is("up", x.climb(0), 13);
        is("2, then as far", x.count(3), 0b001000100010);
        OldLadder y = done("ladder 12;gone 3;told 4");
        y.mind(0, 0xfff);
        is("all: as far", y.climb(0), 13);
        is("4 8 12", y.count(3), 0b100010001000);
        OldLadder z = done("ladder 12;gone 3;told 4");
        z.mind(0, 0b000000000100);
        is("gone: as far", z.climb(0), 13);
        is("4 8 12", z.count(3), 0b100010001000);
        OldLadder w = done("ladder 12;told 4;far 1");
        w.mind(0, 0b1);
        w.step(1, 1);
        is("spent: as far", w.climb(0), 13);
        is("4 8 12, and 1", w.count(3), 0b100010001001);
    }

    private static void staysWhereHeIs() {
        DUE.about("A CLIMB by KIND: if there are none, he stays where he is");
        for (String kind : KINDS) {
            OldLadder x = done("ladder 9;gone 6;gone 7;gone 8;gone 9;" + kind + " 4");
            is("on 5, the last one", x.climb(0), 5);
            OldLadder y = done("ladder 3;gone 1;gone 2;gone 3;" + kind + " 3");
            is("on the ground", y.climb(0), 0);
            is("and again", y.climb(0), 0);
            is("nothing is spent", y.count(3), 0);
            OldLadder z = done("ladder 4;gone 2;gone 3;" + kind + " 2");
            is("on 1", z.climb(0), 1);
            is("still", z.climb(0), 1);
            is("1 is spent", z.count(3), 1);
            is("nobody is up", z.count(5), 0);
        }
    }

    private static void climbsFromWhereHeIs() {
        DUE.about("A CLIMB by KIND: from where he is, as long as he is not at the TOP");
        OldLadder x = done("ladder 10;far 3;near 3;told 3");
        x.step(0, 2);
        x.step(0, 4);
        is("from 4", x.climb(0), 11);
        is("2 4 7 10", x.count(3), 0b1001001010);
        is("at the top", x.climb(0), NOT);
        is("nothing changes", x.count(3), 0b1001001010);
        x.lower(0);
        is("from the ground", x.climb(0), 11);
        is("3 6 9", x.count(3), 0b1101101110);
        is("near: 1, then 5, 8 by 4 feet: no", x.climb(1), 1);
        is("told: none", x.climb(2), 0);
    }

    private static void climbsOnTheLeastAndGreatest() {
        DUE.about("A CLIMB on the least and the greatest LADDER");
        for (String kind : KINDS) {
            OldLadder x = done("ladder 1;" + kind + " 1");
            is("by 1", x.climb(0), 2);
            is("1", x.count(3), 1);
            OldLadder y = done("ladder 1;gone 1;" + kind + " 1;" + kind + " 2");
            is("no rung", y.climb(0), 0);
            is("no rung is needed", y.climb(1), 2);
            OldLadder z = done("ladder 20;" + kind + " 1");
            is("by all", z.climb(0), 21);
            is("all", z.count(3), 0xfffff);
            is("by him", z.rung(20, 3), 0);
        }
        OldLadder far = done("ladder 20;far 6");
        far.climb(0);
        is("6 12 18", far.count(3), 1 << 5 | 1 << 11 | 1 << 17);
        OldLadder near = done("ladder 20;near 6");
        near.climb(0);
        is("1 .. 15", near.count(3), 0x7fff);
    }

    private static void climbsOfNone() {
        DUE.about("promise 11: UNKNOWN");
        OldLadder x = done("ladder 4;far 2;near 2");
        is("climber 2", x.climb(2), UNKNOWN);
        is("climber -1", x.climb(-1), UNKNOWN);
        for (int n : FAR_OFF) {
            is("climber " + n, x.climb(n), UNKNOWN);
        }
        is("nothing changes", x.count(3), 0);
        OldLadder y = done("ladder 4;far 1;far 1;far 1;far 1;far 5");
        is("the fifth", y.climb(4), 5);
        is("no sixth", y.climb(5), UNKNOWN);
    }

    // ---- lower, judge

    private static void lowers() {
        DUE.about("promise 12: down to the ground (RUNGS stay SPENT): where he was; UNKNOWN");
        OldLadder x = done("ladder 20;far 6;near 1");
        is("on the ground", x.lower(0), 0);
        x.climb(0);
        is("at the top", x.lower(0), 21);
        is("on the ground now", x.lower(0), 0);
        is("he is there", x.climber(0, 4), 0);
        is("nobody is up", x.count(5), 0);
        is("spent", x.count(3), 1 << 5 | 1 << 11 | 1 << 17);
        is("by him", x.rung(18, 3), 0);
        x.step(1, 1);
        is("on 1", x.lower(1), 1);
        is("1 stays spent", x.step(1, 1), NOT);
        is("climber 2", x.lower(2), UNKNOWN);
        is("climber -1", x.lower(-1), UNKNOWN);
        for (int n : FAR_OFF) {
            is("climber " + n, x.lower(n), UNKNOWN);
        }
        x.mind(0, 1);
        x.keep(0);
        x.lower(0);
        is("what is kept stays", x.back(0), 4);
    }

    private static void judgesEachFromTheOneAhead() {
        DUE.about("promise 13: the first RUNG, or the TOP, to which he can not step (each from the one ahead); NONE");
        OldLadder x = done("ladder 9;gone 5;far 3;near 1;middle 6");
        is("3 6 9", x.judge(0, 0b100100100), NONE);
        is("just in his stride", x.judge(0, 0b001100100), NONE);
        is("the top too far", x.judge(0, 0b000100100), 10);
        is("the first too far", x.judge(0, 0b100101000), 4);
        is("one between too far", x.judge(0, 0b101000100), 7);
        is("two that he can not, the first", x.judge(0, 0b100010000), 5);
        is("gone", x.judge(0, 0b101010100), 5);
        is("none: the top", x.judge(0, 0), 10);
        is("all but 5, by ones", x.judge(1, 0b111101111), 6);
        is("1 alone, by ones", x.judge(1, 1), 10);
        is("4 by 6", x.judge(2, 0b000001000), NONE);
        is("3 by 6", x.judge(2, 0b000000100), 10);
        OldLadder y = done("ladder 5;near 6;near 5");
        is("none is needed", y.judge(0, 0), NONE);
        is("he treads what he is told", y.judge(0, 0b11111), NONE);
        is("one is needed", y.judge(1, 0), 6);
        OldLadder z = done("ladder 20;told 1;far 6");
        is("all", z.judge(0, 0xfffff), NONE);
        is("all but the highest", z.judge(0, 0x7ffff), 21);
        is("all but the lowest", z.judge(0, 0xffffe), 2);
        is("6 12 18", z.judge(1, 1 << 5 | 1 << 11 | 1 << 17), NONE);
        is("6 12 14", z.judge(1, 1 << 5 | 1 << 11 | 1 << 13), 21);
        is("6 12 15", z.judge(1, 1 << 5 | 1 << 11 | 1 << 14), NONE);
        is("7", z.judge(1, 1 << 6), 7);
    }

    private static void judgesNow() {
        DUE.about("promise 13: of a CLIMBER from the ground, now; nothing changes");
        Scene scene = new Scene("ladder 7;told 3;far 3;weak 2 0", x -> {
            x.mind(0, 1);
            return x.step(0, 3);
        });
        is("from the ground, where he is not", scene.answer(x -> x.judge(0, 0b100010)), 6);
        is("3 is spent, for him also", scene.answer(x -> x.judge(0, 0b100100)), 3);
        is("and for the other", scene.answer(x -> x.judge(1, 0b100100)), 3);
        is("weak ones hold", scene.answer(x -> x.judge(1, 0b010010)), NONE);
        is("not by what he minds", scene.answer(x -> x.judge(0, 0b010010)), NONE);
        DUE.holds("nothing changes", scene.isLeft(x -> x.judge(0, 0b010010)));
        DUE.holds("nothing changes", scene.isLeft(x -> x.judge(1, 0b100100)));
        OldLadder y = done("ladder 3;far 4");
        y.climb(0);
        is("at the top, from the ground", y.judge(0, 0b010), NONE);
    }

    private static void judgesSets() {
        DUE.about("promise 13: UNKNOWN");
        for (int h = 1; h <= 20; h++) {
            OldLadder x = done("ladder " + h + ";far 1");
            int all = (1 << h) - 1;
            is("all of " + h, x.judge(0, all), NONE);
            is("one above", x.judge(0, all + 1), UNKNOWN);
            is("all and one above", x.judge(0, 2 * all + 1), UNKNOWN);
            is("climber 1", x.judge(1, all), UNKNOWN);
            is("climber -1", x.judge(-1, all), UNKNOWN);
        }
        OldLadder y = done("ladder 20;far 1");
        for (int n : FAR_OFF) {
            is("climber " + n, y.judge(n, 0), UNKNOWN);
            boolean within = n >= 0 && n < 1 << 20;
            is("set " + n, y.judge(0, n) == UNKNOWN ? 1 : 0, within ? 0 : 1);
        }
        is("nobody at first", new OldLadder().judge(0, 0), UNKNOWN);
    }

    // ---- keep, back

    private static void keeps() {
        DUE.about("promise 14: how many are SPENT; UNKNOWN: no such k");
        OldLadder x = done("ladder 20;near 1;gone 20");
        is("none", x.keep(0), 0);
        is("none", x.keep(1), 0);
        is("2", x.keep(2), UNKNOWN);
        is("-1", x.keep(-1), UNKNOWN);
        for (int n : FAR_OFF) {
            is("keep " + n, x.keep(n), UNKNOWN);
            is("back " + n, x.back(n), UNKNOWN);
        }
        x.step(0, 1);
        is("one", x.keep(1), 1);
        x.climb(0);
        is("19", x.keep(0), 19);
        is("gone ones are not spent", x.count(4), 1 << 19);
        OldLadder y = done("ladder 20;near 1");
        y.climb(0);
        is("all", y.keep(1), 20);
        OldLadder z = new OldLadder();
        is("a new object", z.keep(0), 0);
        is("has something kept then", z.back(0), 0);
        OldLadder w = done("ladder 5;far 6");
        w.step(0, 6);
        is("the top is not spent", w.keep(0), 0);
    }

    private static void backAsKept() {
        DUE.about("promise 15: they are as they were kept: likewise");
        OldLadder x = done("ladder 9;weak 2 3;far 2;near 3;told 4");
        x.step(0, 2);
        x.step(1, 1);
        is("two", x.keep(0), 2);
        is("0 climbs", x.climb(0), 10);
        is("4 6 8, too", x.keep(1), 5);
        x.lower(1);
        is("back to 0", x.back(0), 2);
        is("0 is at 2", x.climber(0, 4), 2);
        is("1 is at 1", x.climber(1, 4), 1);
        is("2 is on the ground", x.climber(2, 4), 0);
        is("spent", x.count(3), 0b11);
        is("free", x.count(2), 0b111111100);
        is("who", x.rung(1, 3), 1);
        is("who", x.rung(2, 3), 0);
        is("nobody", x.rung(4, 3), NONE);
        is("weak still", x.rung(2, 1), 3);
        is("forward to 1", x.back(1), 5);
        is("0 is up", x.count(5), 1);
        is("1 is at 1", x.climber(1, 4), 1);
        is("who", x.rung(8, 3), 0);
        is("again", x.back(1), 5);
        is("again to 0", x.back(0), 2);
        is("climbs from there", x.climb(0), 10);
        is("is not kept by it", x.back(0), 2);
    }

    private static void backToWhoStepped() {
        DUE.about("promises 6, 15: who stepped on it, as it was kept");
        for (int i = 0; i < 2; i++) {
            OldLadder x = done("ladder 20;near 1;told 1");
            is("none", x.keep(0), 0);
            x.climb(i);
            is("all", x.keep(1), 20);
            x.back(0);
            x.climb(1 - i);
            for (int r = 1; r <= 20; r++) {
                is("the other one", x.rung(r, 3), 1 - i);
            }
            is("back", x.back(1), 20);
            for (int r = 1; r <= 20; r++) {
                is("he", x.rung(r, 3), i);
            }
            is("back to none", x.back(0), 0);
            for (int r = 1; r <= 20; r++) {
                is("nobody", x.rung(r, 3), NONE);
            }
        }
    }

    private static void backSinceTheLastText() {
        DUE.about("promise 15: UNKNOWN; NOT: nothing was kept since the last text");
        OldLadder x = done("ladder 4;far 2");
        is("nothing", x.back(0), NOT);
        is("nothing", x.back(1), NOT);
        is("UNKNOWN is ahead of NOT", x.back(2), UNKNOWN);
        is("UNKNOWN is ahead of NOT", x.back(-1), UNKNOWN);
        x.keep(1);
        is("not under 0", x.back(0), NOT);
        is("under 1", x.back(1), 0);
        Due.write(x, "nobody;");
        is("a text with a fault", x.ladder(), NOT);
        is("takes nothing away", x.back(1), 0);
        x.erase();
        is("nor erase", x.back(1), 0);
        Due.write(x, "sound 1");
        is("nor a text that is written", x.back(1), 0);
        x.fault();
        is("nor fault", x.back(1), 0);
        x.ladder();
        is("one that is done does", x.back(1), NOT);
        is("and there was none here", x.back(0), NOT);
        x.step(0, 2);
        is("refused, nothing changes", x.back(1), NOT);
        is("he is there", x.climber(0, 4), 2);
        is("kept since", x.keep(0), 1);
        is("back", x.back(0), 1);
    }

    private static void imagesOfAll() {
        DUE.about("promises 14, 15: where all are");
        OldLadder x = done("ladder 20;far 1;near 2;middle 3;told 4;far 5");
        int[] at = {1, 2, 3, 4, 5};
        for (int i = 0; i < 5; i++) {
            x.step(i, at[i]);
        }
        is("five", x.keep(1), 5);
        for (int i = 0; i < 5; i++) {
            x.lower(i);
        }
        x.step(4, 5);
        is("spent still", x.climber(4, 4), 0);
        is("five", x.back(1), 5);
        for (int i = 0; i < 5; i++) {
            is("where he was", x.climber(i, 4), at[i]);
            is("who", x.rung(i + 1, 3), i);
        }
        OldLadder y = done("ladder 5;far 6;told 3");
        y.step(0, 6);
        y.mind(1, 0b10);
        y.keep(0);
        y.lower(0);
        y.mind(1, 0b100);
        is("back", y.back(0), 0);
        is("at the top again", y.count(5), 1);
        is("what he minds is not among them", y.mind(1, 0), 0b100);
    }
}
