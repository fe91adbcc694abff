import java.util.function.IntPredicate;

/** What is foretold, sentence by sentence: each boundary that the document names for promises 16 to 26. */
public final class ForetoldEdgeTest {
    private static final int NONE = OldLadder.NONE;
    private static final int UNKNOWN = OldLadder.UNKNOWN;
    private static final int OUTSIDE = OldLadder.OUTSIDE;
    private static final int NOT = OldLadder.NOT;
    private static final String FIVE_OF_SIX = "far 6;near 6;middle 6;told 6;far 6";
    private static final int[] FAR_OFF = {
        Integer.MIN_VALUE, Integer.MIN_VALUE + 1, -65536, -33, -32, -31, -7, -6, -5, -4, -3, -2, 21, 32, 33, 64, 65536,
        1 << 30, Integer.MAX_VALUE - 1, Integer.MAX_VALUE};
    private static final Due DUE = new Due();

    public static void main(String[] args) {
        mostIfTheTopIsInReach();
        mostByStretches();
        mostOutside();
        waysOfNobody();
        waysEachRungToOneOrNone();
        waysOfMany();
        setsOfClimbers();
        largestOfNone();
        largestOfSeveral();
        orderOfNobody();
        orderTheFirstOfSeveral();
        orderByPlaces();
        mendsNone();
        mendsOfSpentAndGone();
        spoiltToK();
        spoiltNever();
        bothCut();
        oddsInLowestTerms();
        oddsOfTenths();
        oddsAskedAgain();
        oddsOfTwelve();
        fitsJustThese();
        fitsSets();
        fitsAsIfAllWereFree();
        makeHeights();
        makeSets();
        countsEach();
        foretoldFromTheGround();
        nothingChanges();
        upToTheLastCall();
        DUE.end("ForetoldEdgeTest");
    }

    private static void is(String call, long got, long want) {
        DUE.is(call, got, want);
    }

    private static OldLadder done(String text) {
        return Due.told(text);
    }

    /** A text of a ladder on which just those rungs are gone; two texts, if it has more than 11 of them. */
    private static OldLadder without(int h, int rungs, String more) {
        OldLadder x = done("ladder " + h + (more.isEmpty() ? "" : ";" + more));
        for (int r = 1; r <= h; r++) {
            if ((rungs >> r - 1 & 1) == 1) {
                Due.write(x, "gone " + r);
                x.ladder();
            }
        }
        return x;
    }

    // ---- most

    private static void mostIfTheTopIsInReach() {
        DUE.about("promise 16: 99, if the TOP is in r from the ground; NONE: there is none");
        for (int h = 1; h <= 20; h++) {
            OldLadder x = done("ladder " + h);
            OldLadder y = without(h, (1 << h) - 1, "");
            for (int r = 1; r <= 6; r++) {
                boolean in = h + 1 <= r;
                is("most " + r + " of " + h, x.most(r, 0), in ? 99 : r);
                is("stretch " + r + " of " + h, x.most(r, 1), in ? NONE : 1);
                is("most " + r + " of none of " + h, y.most(r, 0), in ? 99 : 0);
                is("stretch " + r + " of none of " + h, y.most(r, 1), in ? NONE : 1);
            }
        }
    }

    private static void mostByStretches() {
        DUE.about("promise 16: the fewest FREE RUNGS in any STRETCH of r; the lowest RUNG of the lowest such one");
        for (int h = 6; h <= 20; h++) {
            OldLadder x = without(h, 1 << h - 1, "");
            for (int r = 1; r <= 6; r++) {
                is("the highest is gone", x.most(r, 0), r - 1);
                is("the highest stretch", x.most(r, 1), h - r + 1);
            }
            OldLadder y = without(h, 1 | 1 << h - 1, "");
            for (int r = 1; r <= 6; r++) {
                is("of two", y.most(r, 0), h == 6 && r == 6 ? 4 : r - 1);
                is("the lowest", y.most(r, 1), 1);
            }
        }
        OldLadder z = done("ladder 10;weak 4 0;far 5;far 5");
        is("weak ones are free", z.most(3, 0), 3);
        z.step(0, 5);
        is("spent ones are not", z.most(3, 0), 2);
        is("3 4 5", z.most(3, 1), 3);
        z.step(1, 4);
        is("two", z.most(3, 0), 1);
        is("3 4 5", z.most(3, 1), 3);
        is("of 6", z.most(6, 0), 4);
        is("1 .. 6", z.most(6, 1), 1);
    }

    private static void mostOutside() {
        DUE.about("promise 16: r (1 .. 6), what (0, 1); OUTSIDE");
        OldLadder x = new OldLadder();
        is("0", x.most(0, 0), OUTSIDE);
        is("7", x.most(7, 0), OUTSIDE);
        is("-1", x.most(-1, 1), OUTSIDE);
        is("what -1", x.most(1, -1), OUTSIDE);
        is("what 2", x.most(6, 2), OUTSIDE);
        for (int n : FAR_OFF) {
            is("stride " + n, x.most(n, 0), OUTSIDE);
            is("what " + n, x.most(6, n), OUTSIDE);
            is("both " + n, x.most(n, n), OUTSIDE);
        }
        OldLadder y = done("ladder 1");
        is("7 of a ladder of one", y.most(7, 0), OUTSIDE);
        is("what 2 with the top in reach", y.most(6, 2), OUTSIDE);
    }

    // ---- ways, largest

    private static void waysOfNobody() {
        DUE.about("promise 17: (0: not ALL can); a set of nobody");
        is("a new object", new OldLadder().ways(0), 1);
        is("nobody of five", done(FIVE_OF_SIX).ways(0), 1);
        OldLadder x = without(8, 255, "far 6;near 6");
        is("nobody on no rungs", x.ways(0), 1);
        is("one on no rungs", x.ways(1), 0);
        is("two on no rungs", x.ways(3), 0);
        OldLadder y = without(5, 31, FIVE_OF_SIX);
        is("all of them need none", y.ways(31), 1);
    }

    private static void waysEachRungToOneOrNone() {
        DUE.about("promise 17: in how many ways (each RUNG to one of them, or none)");
        for (int n = 1; n <= 5; n++) {
            for (int h = 1; h <= 5; h++) {
                long want = 1;
                for (int r = 0; r < h; r++) {
                    want *= n + 1;
                }
                is("h " + h + ", of " + n, done("ladder " + h + ";" + FIVE_OF_SIX).ways((1 << n) - 1), want);
            }
        }
        // Of one with stride 6 as many as rows of 20 without six gaps.
        is("of one", done("ladder 20;near 6").ways(1), 920319);
        is("of one with stride 1", done("ladder 20;near 1").ways(1), 1);
        is("of two with stride 1", done("ladder 20;near 1;near 1").ways(3), 0);
        is("of two with stride 2", done("ladder 20;near 2;near 2").ways(3), 2);
        OldLadder x = done("ladder 3;far 2;near 2");
        is("1 3 and 2, or 2 and 1 3", x.ways(3), 2);
        is("weak ones, too", done("ladder 3;far 2;near 2;weak 2 0").ways(3), 2);
        is("by stride, not by reach", done("ladder 3;far 6;load 0 5").ways(1), 1);
    }

    private static void waysOfMany() {
        DUE.about("promise 17: a long");
        OldLadder x = done("ladder 20;" + FIVE_OF_SIX);
        is("of two", x.ways(3), 928732146L);
        is("of three", x.ways(7), 14638374444L);
        is("of three others", x.ways(28), 14638374444L);
        is("of four", x.ways(15), 6164397408L);
        is("of five", x.ways(31), 46852920L);
    }

    private static void setsOfClimbers() {
        DUE.about("promises 17, 19, 20, 25: UNKNOWN (a set with such)");
        for (int n = 0; n <= 5; n++) {
            StringBuilder text = new StringBuilder("ladder 3");
            for (int i = 0; i < n; i++) {
                text.append(";told 6");
            }
            OldLadder x = done(text.toString());
            int all = (1 << n) - 1;
            is("ways of all", x.ways(all) > 0 ? 1 : 0, 1);
            is("order of all", x.order(all, NONE), n);
            is("mends of all", x.mends(all), 0);
            is("make of all", x.make(all, 1), 0);
            int[] wrong = {all + 1, 2 * all + 1, -1, Integer.MIN_VALUE, Integer.MAX_VALUE, 32, 1 << 30, -32};
            for (int set : wrong) {
                is("ways " + set, x.ways(set), UNKNOWN);
                is("order " + set, x.order(set, NONE), UNKNOWN);
                is("mends " + set, x.mends(set), UNKNOWN);
                is("make " + set, x.make(set, 1), UNKNOWN);
            }
        }
    }

    private static void largestOfNone() {
        DUE.about("promise 18: LARGEST: how many (what 0), the set (1); OUTSIDE");
        OldLadder x = new OldLadder();
        is("nobody", x.largest(0), 0);
        is("nobody", x.largest(1), 0);
        is("what -1", x.largest(-1), OUTSIDE);
        is("what 2", x.largest(2), OUTSIDE);
        for (int n : FAR_OFF) {
            is("what " + n, x.largest(n), OUTSIDE);
        }
        OldLadder y = without(6, 63, FIVE_OF_SIX);
        is("none can", y.largest(0), 0);
        is("none can", y.largest(1), 0);
        OldLadder z = without(5, 31, FIVE_OF_SIX);
        is("all can", z.largest(0), 5);
        is("all can", z.largest(1), 31);
        OldLadder w = done("ladder 1;far 1;far 1;far 1;far 1;far 2");
        is("one by the rung, one without", w.largest(0), 2);
        is("the least such", w.largest(1), 0b10001);
    }

    private static void largestOfSeveral() {
        DUE.about("promise 18: the greatest set that can; of several the least (bits)");
        OldLadder x = done("ladder 20;near 1;far 2;near 2;middle 4;told 4");
        // He of stride 1 needs them all; two of stride 2 do, too; one of these leaves room for both of the others.
        is("three", x.largest(0), 3);
        is("the least", x.largest(1), 0b11010);
        OldLadder tight = done("ladder 20;near 1;far 2;near 2;middle 3;told 6");
        // In six rungs 2, 3 and 6 need 3, 2 and 1 of them, but beside every other one 3 needs all that are left.
        is("two", tight.largest(0), 2);
        is("the least of these", tight.largest(1), 0b00110);
        OldLadder y = done("ladder 9;told 6;told 6;told 1");
        is("two", y.largest(0), 2);
        is("the first two", y.largest(1), 0b011);
        OldLadder z = done("ladder 9;told 1;told 1;far 6;near 6");
        is("the last two", z.largest(1), 0b1100);
        OldLadder w = done("ladder 9;told 1;told 1");
        is("one", w.largest(0), 1);
        is("the first", w.largest(1), 1);
        w.step(0, 1);
        is("none", w.largest(1), 0);
    }

    // ---- order

    private static void orderOfNobody() {
        DUE.about("promise 19: how many are up (i NONE), the i-th; NONE: there are not so many; OUTSIDE: i below NONE");
        OldLadder x = done("ladder 20;" + FIVE_OF_SIX);
        is("of nobody", x.order(0, NONE), 0);
        is("no first", x.order(0, 0), NONE);
        is("none far off", x.order(0, Integer.MAX_VALUE), NONE);
        is("below", x.order(0, -2), OUTSIDE);
        is("least", x.order(31, Integer.MIN_VALUE), OUTSIDE);
        is("below, with none such", x.order(32, -2), UNKNOWN);
        is("least, with none such", x.order(-1, Integer.MIN_VALUE), UNKNOWN);
        for (int i = 0; i < 5; i++) {
            is("he alone", x.order(1 << i, 0), i);
            is("no second", x.order(1 << i, 1), NONE);
            is("he alone is up", x.order(1 << i, NONE), 1);
        }
        is("the last", x.order(31, 4) >= 0 ? 1 : 0, 1);
        is("no sixth", x.order(31, 5), NONE);
        is("none far off", x.order(31, Integer.MAX_VALUE), NONE);
        is("none at all", x.order(31, 1 << 30), NONE);
    }

    private static void isRow(String what, OldLadder x, int set, int up, int... row) {
        is(what + ", up", x.order(set, NONE), up);
        for (int i = 0; i < row.length; i++) {
            is(what + ", the " + i, x.order(set, i), row[i]);
        }
        is(what + ", no more", x.order(set, row.length), NONE);
    }

    private static void orderTheFirstOfSeveral() {
        DUE.about("promise 19: the row by which most are up; of several the first");
        isRow("none can be up", without(9, 511, FIVE_OF_SIX), 31, 0, 0, 1, 2, 3, 4);
        isRow("all need none", without(5, 31, FIVE_OF_SIX), 31, 5, 0, 1, 2, 3, 4);
        isRow("all alike", done("ladder 20;far 5;far 5;far 5;far 5;far 5"), 31, 5, 0, 1, 2, 3, 4);
        isRow("some of them", done("ladder 20;far 5;far 5;far 5;far 5;far 5"), 0b10110, 3, 1, 2, 4);
        // He who treads all has to be the last one, if he is not the only one.
        isRow("near first spoils it", done("ladder 6;near 1;far 3;far 3"), 7, 2, 1, 2, 0);
        isRow("one of the two", done("ladder 6;near 1;far 3"), 3, 1, 0, 1);
        isRow("the last is first", done("ladder 4;near 2;far 2"), 3, 2, 1, 0);
    }

    private static void orderByPlaces() {
        DUE.about("promise 19: climbing one behind the other by KIND from the ground");
        isRow("near 1 2, then far 3", done("ladder 3;near 2;far 3"), 3, 2, 0, 1);
        // Near would tread 1 2 3, and stick there.
        isRow("one who sticks spends his rungs", done("ladder 4;gone 4;near 1;far 3"), 3, 1, 1, 0);
        OldLadder told = done("ladder 4;gone 1;gone 2;told 4;far 3");
        isRow("told as far: 4, then 3", told, 3, 2, 0, 1);
        told.mind(0, 0b0100);
        isRow("told minds 3, unless it is spent", told, 3, 2, 1, 0);
        told.step(1, 3);
        isRow("with rungs as they are", told, 3, 1, 0, 1);
        isRow("from the ground, not from 3", told, 2, 0, 1);
    }

    // ---- mends, spoilt, both

    private static void mendsNone() {
        DUE.about("promise 20: MENDS: how many; NONE: not even so");
        is("nobody", without(8, 255, "far 1").mends(0), 0);
        is("all rungs", without(8, 255, "far 1").mends(1), 8);
        is("all of 20", without(20, 0xfffff, "far 1").mends(1), 20);
        is("every sixth of 20", without(20, 0xfffff, "far 6").mends(1), 3);
        is("two of stride 1", done("ladder 1;far 1;near 1").mends(3), NONE);
        is("one of them", done("ladder 1;far 1;near 1").mends(1), 0);
        is("two of stride 2", done("ladder 20;far 2;near 2").mends(3), 0);
        is("three of stride 2", done("ladder 20;far 2;near 2;told 2").mends(7), NONE);
        is("five of stride 4", done("ladder 4;far 4;far 4;far 4;far 4;far 4").mends(31), NONE);
        is("five of stride 5", done("ladder 5;far 5;far 5;far 5;far 5;far 5").mends(31), 0);
        is("five of stride 6 that need none", without(5, 31, FIVE_OF_SIX).mends(31), 0);
        is("five of stride 6 on 6 gone ones", without(6, 63, FIVE_OF_SIX).mends(31), 5);
        // Three rungs each would do, but the last of three is one of 15 .. 18.
        is("four of stride 6 on 20 gone ones", without(20, 0xfffff, FIVE_OF_SIX).mends(15), 12);
        is("five of stride 6 on 20 gone ones", without(20, 0xfffff, FIVE_OF_SIX).mends(31), 16);
        is("by stride", done("ladder 2;far 6;load 0 5;near 1").mends(3), NONE);
    }

    private static void mendsOfSpentAndGone() {
        DUE.about("promise 20: the fewest RUNGS that are SPENT or GONE to be FREE");
        OldLadder x = done("ladder 4;gone 1;weak 3 0;far 1;far 4");
        is("one is gone", x.mends(1), 1);
        x.step(1, 3);
        is("one is spent", x.mends(1), 2);
        x.lower(1);
        x.step(1, 4);
        is("two are spent", x.mends(1), 3);
        is("he needs one, and 2 is free", x.mends(2), 0);
        is("both can not", x.mends(3), NONE);
        is("nothing changes", x.count(2), 2);
    }

    private static void spoiltToK() {
        DUE.about("promise 21: for r and k (0 .. 9): so that MOST by r is k at most");
        OldLadder x = done("ladder 20;gone 10");
        for (int r = 1; r <= 6; r++) {
            for (int k = 0; k <= 9; k++) {
                is("r " + r + ", k " + k, x.spoilt(r, k), Math.max(0, r - 1 - k));
            }
            is("k 10", x.spoilt(r, 10), OUTSIDE);
            is("k -1", x.spoilt(r, -1), OUTSIDE);
        }
        is("r 0", x.spoilt(0, 0), OUTSIDE);
        is("r 7", x.spoilt(7, 0), OUTSIDE);
        for (int n : FAR_OFF) {
            is("r " + n, x.spoilt(n, 0), OUTSIDE);
            is("k " + n, x.spoilt(1, n), OUTSIDE);
            is("both " + n, x.spoilt(n, n), OUTSIDE);
        }
        OldLadder y = done("ladder 6");
        is("all of 6", y.spoilt(6, 0), 6);
        is("one of 6", y.spoilt(6, 5), 1);
        is("none of 6", y.spoilt(6, 6), 0);
    }

    private static void spoiltNever() {
        DUE.about("promise 21: none: never (the TOP is in r from the ground)");
        for (int h = 1; h <= 8; h++) {
            OldLadder x = done("ladder " + h);
            OldLadder y = without(h, (1 << h) - 1, "");
            for (int r = 1; r <= 6; r++) {
                is("r " + r + " of " + h, x.spoilt(r, 0), h + 1 <= r ? NONE : r);
                is("r " + r + " of " + h + ", k 9", x.spoilt(r, 9), h + 1 <= r ? NONE : 0);
                is("r " + r + " of none of " + h, y.spoilt(r, 0), h + 1 <= r ? NONE : 0);
            }
            is("OUTSIDE is ahead of it", x.spoilt(6, 10), OUTSIDE);
            is("OUTSIDE is ahead of it", x.spoilt(7, 0), OUTSIDE);
        }
    }

    private static void bothCut() {
        DUE.about("promise 22: up and down again, on other RUNGS; 99 likewise; OUTSIDE");
        int[] half = {0, 1, 1, 2, 2, 3};
        for (int h = 1; h <= 20; h++) {
            OldLadder x = done("ladder " + h);
            for (int r = 1; r <= 6; r++) {
                is("r " + r + " of " + h, x.both(r), h + 1 <= r ? 99 : half[r - 1]);
            }
            is("r 0", x.both(0), OUTSIDE);
            is("r 7", x.both(7), OUTSIDE);
        }
        for (int n : FAR_OFF) {
            is("r " + n, new OldLadder().both(n), OUTSIDE);
        }
        OldLadder y = done("ladder 20;far 6");
        y.step(0, 6);
        is("one is spent", y.both(6), 2);
        is("one is spent", y.both(5), 2);
        is("one is spent", y.both(3), 1);
        is("one is spent", y.both(2), 0);
        is("none at all", without(20, 0xfffff, "").both(6), 0);
    }

    // ---- odds

    private static void isOdds(String what, OldLadder x, int r, long above, long below) {
        is(what + ", above", x.odds(r, 0), above);
        is(what + ", below", x.odds(r, 1), below);
    }

    private static void oddsInLowestTerms() {
        DUE.about("promise 23: in lowest terms: above (part 0), below (1); OUTSIDE");
        isOdds("no weak ones", new OldLadder(), 1, 1, 1);
        isOdds("no rungs", without(8, 255, ""), 6, 0, 1);
        isOdds("the top in reach", without(5, 31, ""), 6, 1, 1);
        isOdds("the top in reach of weak ones", done("ladder 1;weak 1 0"), 2, 1, 1);
        isOdds("by 0 and by 5", done("ladder 2;weak 1 0;weak 2 5"), 1, 0, 1);
        isOdds("by 10 and by 10", done("ladder 2;weak 1 10;weak 2 10"), 1, 1, 1);
        isOdds("by 5 and by 2", done("ladder 2;weak 1 5;weak 2 2"), 1, 1, 10);
        isOdds("by 3 and by 7", done("ladder 2;weak 1 3;weak 2 7"), 1, 21, 100);
        isOdds("3 or 7", done("ladder 2;weak 1 3;weak 2 7"), 2, 79, 100);
        OldLadder x = new OldLadder();
        is("r 0", x.odds(0, 0), OUTSIDE);
        is("r 7", x.odds(7, 1), OUTSIDE);
        is("part -1", x.odds(1, -1), OUTSIDE);
        is("part 2", x.odds(6, 2), OUTSIDE);
        for (int n : FAR_OFF) {
            is("r " + n, x.odds(n, 0), OUTSIDE);
            is("part " + n, x.odds(1, n), OUTSIDE);
            is("both " + n, x.odds(n, n), OUTSIDE);
        }
    }

    private static void oddsOfTenths() {
        DUE.about("promise 23: each WEAK RUNG that is FREE holds by its tenths, by itself");
        long[][] terms = {{0, 1}, {1, 10}, {1, 5}, {3, 10}, {2, 5}, {1, 2}, {3, 5}, {7, 10}, {4, 5}, {9, 10}, {1, 1}};
        for (int p = 0; p <= 10; p++) {
            OldLadder x = done("ladder 1;weak 1 " + p + ";far 1");
            isOdds("by " + p, x, 1, terms[p][0], terms[p][1]);
            x.step(0, 1);
            isOdds("spent", x, 1, 0, 1);
            OldLadder y = done("ladder 3;weak 2 " + p + ";gone 3;far 2");
            isOdds("2 is needed", y, 2, terms[p][0], terms[p][1]);
            isOdds("3 is gone", y, 1, 0, 1);
            isOdds("1 will do", y, 3, 1, 1);
            y.step(0, 1);
            isOdds("1 is spent", y, 3, terms[p][0], terms[p][1]);
        }
    }

    private static void oddsAskedAgain() {
        DUE.about("promise 23: SOUND ones hold; asked again, the same");
        OldLadder x = done("ladder 7;weak 3 5;weak 4 5;weak 5 5;weak 6 5;weak 7 5");
        OldLadder y = done("ladder 7;gone 2;weak 3 5;weak 4 5;weak 5 5;weak 6 5;weak 7 5");
        for (int times = 0; times < 3; times++) {
            isOdds("from 2 to the top", x, 6, 1, 1);
            isOdds("from 2 by one of 3 .. 7", x, 5, 31, 32);
            isOdds("from 1 by one of 3 .. 7", y, 6, 31, 32);
            isOdds("by each of them", x, 1, 1, 32);
        }
        isOdds("by the sound one between", done("ladder 3;weak 1 5;weak 3 5"), 2, 1, 1);
        isOdds("by both", done("ladder 3;weak 1 5;weak 3 5"), 1, 1, 4);
        isOdds("by 2 3", done("ladder 4;weak 1 0;weak 4 0"), 2, 1, 1);
    }

    /** A ladder of 20, of which the first so many are weak by those tenths. */
    private static OldLadder weakOnes(int many, int tenths) {
        OldLadder x = done("ladder 20;near 1");
        for (int r = 1; r <= many; r++) {
            Due.write(x, "weak " + r + " " + tenths);
            x.ladder();
        }
        return x;
    }

    private static void oddsOfTwelve() {
        DUE.about("promise 23: NOT: more than 12 WEAK RUNGS are FREE");
        isOdds("12 by 1", weakOnes(12, 1), 1, 1, 1000000000000L);
        isOdds("12 by 9", weakOnes(12, 9), 1, 282429536481L, 1000000000000L);
        isOdds("12 by 5", weakOnes(12, 5), 1, 1, 4096);
        isOdds("12 by 0", weakOnes(12, 0), 1, 0, 1);
        isOdds("12 by 10", weakOnes(12, 10), 1, 1, 1);
        int[] many = {13, 14, 20};
        for (int n : many) {
            OldLadder x = weakOnes(n, 5);
            for (int r = 1; r <= 6; r++) {
                is(n + " weak ones", x.odds(r, 0), NOT);
                is(n + " weak ones", x.odds(r, 1), NOT);
            }
            is("OUTSIDE is ahead of NOT", x.odds(0, 0), OUTSIDE);
            is("OUTSIDE is ahead of NOT", x.odds(7, 0), OUTSIDE);
            is("OUTSIDE is ahead of NOT", x.odds(1, 2), OUTSIDE);
            is("OUTSIDE is ahead of NOT", x.odds(1, -1), OUTSIDE);
        }
        OldLadder x = weakOnes(13, 5);
        x.step(0, 1);
        isOdds("one of 13 is spent", x, 1, 0, 1);
        isOdds("one of 13 is spent", x, 2, weakRowsOf(12, 2, true), 4096 / commonOf(12, 2, true));
        Due.write(x, "gone 13");
        x.ladder();
        isOdds("one of 13 is gone", x, 1, 0, 1);
        isOdds("one of 13 is gone, by 6", x, 6, weakRowsOf(12, 6, false), 4096 / commonOf(12, 6, false));
    }

    /** Of all rows of n weak ones by 5 tenths, those without a gap of r, a gap of one ahead of them (or behind). */
    private static long rows(int n, int r, boolean ahead) {
        long rows = 0;
        for (int row = 0; row < 1 << n; row++) {
            int gap = ahead ? 1 : 0;
            boolean up = true;
            for (int i = 0; i < n; i++) {
                gap = (row >> i & 1) == 1 ? 0 : gap + 1;
                up &= gap < r;
            }
            // Behind them stands one that is gone, if none is ahead, and then sound ones.
            rows += up && (ahead || gap + 1 < r) ? 1 : 0;
        }
        return rows;
    }

    private static long commonOf(int n, int r, boolean ahead) {
        long rows = rows(n, r, ahead);
        return Math.min(1L << n, rows & -rows);
    }

    private static long weakRowsOf(int n, int r, boolean ahead) {
        return rows(n, r, ahead) / commonOf(n, r, ahead);
    }

    // ---- fits, make, count

    private static void fitsJustThese() {
        DUE.about("promise 24: REACHES (1 .. 6) of a FAR one (what 0), of a NEAR one (1), who treads just these, and is up");
        int[] far = {0xfffff, 0, 0, 0, 0, 0};
        for (int reach = 2; reach <= 6; reach++) {
            for (int r = reach; r <= 20; r += reach) {
                far[reach - 1] |= 1 << r - 1;
            }
        }
        OldLadder x = done("ladder 20");
        for (int reach = 1; reach <= 6; reach++) {
            is("far of " + reach, x.fits(far[reach - 1], 0), 1 << reach - 1);
            is("one more", x.fits(far[reach - 1] ^ 1, 0), 0);
            int near = (1 << 21 - reach) - 1;
            is("near of " + reach, x.fits(near, 1), 1 << reach - 1);
            is("one less", x.fits(near & ~1, 1), 0);
        }
        is("near by far", x.fits(far[1], 1), 0);
        is("none", x.fits(0, 0), 0);
        for (int h = 1; h <= 6; h++) {
            OldLadder y = done("ladder " + h);
            int without = 63 & ~((1 << Math.min(6, h)) - 1);
            is("of those who need none", y.fits(0, 0), without);
            is("of those who need none", y.fits(0, 1), without);
            is("all", y.fits((1 << h) - 1, 0), 1);
            is("all", y.fits((1 << h) - 1, 1), 1);
        }
        is("none are there", without(5, 31, "").fits(0, 0), 0b100000);
        is("none are there, and none is up", without(6, 63, "").fits(0, 0), 0);
        is("two reaches", without(9, 0b111101111, "").fits(0b10000, 0), 0b110000);
        is("two reaches", without(9, 0b111101111, "").fits(0b10000, 1), 0b110000);
    }

    private static void fitsSets() {
        DUE.about("promise 24: UNKNOWN: the set; OUTSIDE: what");
        for (int h = 1; h <= 20; h++) {
            OldLadder x = done("ladder " + h);
            is("one above", x.fits(1 << h, 0), UNKNOWN);
            is("all and one above", x.fits((2 << h) - 1, 1), UNKNOWN);
            is("UNKNOWN is ahead of OUTSIDE", x.fits(1 << h, 2), UNKNOWN);
            is("UNKNOWN is ahead of OUTSIDE", x.fits(-1, -1), UNKNOWN);
            is("what 2", x.fits(0, 2), OUTSIDE);
            is("what -1", x.fits((1 << h) - 1, -1), OUTSIDE);
        }
        OldLadder y = done("ladder 20");
        for (int n : FAR_OFF) {
            is("what " + n, y.fits(0, n), OUTSIDE);
            boolean within = n >= 0 && n < 1 << 20;
            is("set " + n, y.fits(n, 0) == UNKNOWN ? 1 : 0, within ? 0 : 1);
        }
    }

    private static void fitsAsIfAllWereFree() {
        DUE.about("promise 24: without LOAD, climbing from the ground as if all that are not GONE were FREE");
        OldLadder x = done("ladder 6;gone 3;weak 1 0;far 3;load 0 2");
        for (int r = 1; r <= 2; r++) {
            x.step(0, r);
        }
        is("spent", x.count(3), 0b11);
        is("far of 3: 2 5", x.fits(0b010010, 0), 0b100);
        is("far of 2: 2 4 6", x.fits(0b101010, 0), 0b10);
        is("near of 2: 1 2 4 5", x.fits(0b011011, 1), 0b10);
        is("near of 6: 1", x.fits(0b000001, 1), 0b100000);
        is("3 is gone", x.fits(0b111111, 0), 0);
        is("he stays where he is", x.climber(0, 4), 2);
    }

    private static void makeHeights() {
        DUE.about("promise 25: OUTSIDE: h (1 .. 20)");
        OldLadder x = done("ladder 1;far 1;near 2;middle 3;told 4;far 6");
        for (int h = 1; h <= 20; h++) {
            is("stride 1", x.make(1, h), h);
            is("stride 2", x.make(2, h), h / 2);
            is("stride 3", x.make(4, h), h / 3);
            is("stride 4", x.make(8, h), h / 4);
            is("stride 6", x.make(16, h), h / 6);
            is("all", x.make(31, h), h + h / 2 + h / 3 + h / 4 + h / 6);
            is("nobody", x.make(0, h), 0);
        }
        is("h 0", x.make(31, 0), OUTSIDE);
        is("h 21", x.make(31, 21), OUTSIDE);
        is("h -1", x.make(0, -1), OUTSIDE);
        is("UNKNOWN is ahead of OUTSIDE", x.make(32, 0), UNKNOWN);
        is("UNKNOWN is ahead of OUTSIDE", x.make(-1, 21), UNKNOWN);
        for (int n : FAR_OFF) {
            is("h " + n, x.make(1, n), OUTSIDE);
            is("both " + n, x.make(n == 21 ? 64 : n, n), UNKNOWN);
        }
    }

    private static void makeSets() {
        DUE.about("promise 25: RUNGS may be at any foot, two at one foot, too, each of one of them");
        OldLadder x = done("ladder 2;gone 1;gone 2;far 1;far 1;far 1;far 1;far 1");
        is("five at each foot", x.make(31, 20), 100);
        is("two at each foot", x.make(0b1010, 20), 40);
        OldLadder y = done("ladder 2;far 6;load 0 5;near 6;load 1 4");
        is("by strides 1, 2", y.make(3, 5), 7);
        is("the ladder stays", y.count(0), 2);
    }

    private static void countsEach() {
        DUE.about("promise 26: 0 .. 6; by bits each; OUTSIDE");
        OldLadder x = done("ladder 20;gone 20;weak 19 0;far 5;near 1;middle 1;told 1;far 6");
        x.climb(0);
        x.climb(4);
        Due.write(x, "nobody");
        int spent = x.count(3);
        is("h", x.count(0), 20);
        is("climbers", x.count(1), 5);
        is("spent: 5 10 15 19, 6 12 18", spent, 1 << 4 | 1 << 9 | 1 << 14 | 1 << 18 | 1 << 5 | 1 << 11 | 1 << 17);
        is("gone", x.count(4), 1 << 19);
        is("free", x.count(2), 0x7ffff & ~spent);
        is("at the top", x.count(5), 0b10001);
        is("bytes", x.count(6), 6);
        is("-1", x.count(-1), OUTSIDE);
        is("7", x.count(7), OUTSIDE);
        for (int n : FAR_OFF) {
            is("what " + n, x.count(n), OUTSIDE);
        }
        OldLadder y = without(20, 0xfffff, "");
        is("all gone", y.count(4), 0xfffff);
        is("none free", y.count(2), 0);
        OldLadder z = done("ladder 1;" + FIVE_OF_SIX);
        for (int i = 0; i < 5; i++) {
            z.climb(i);
        }
        is("all at the top", z.count(5), 31);
        is("none is spent", z.count(3), 0);
        is("one is free", z.count(2), 1);
    }

    // ---- for all of these

    private static void foretoldFromTheGround() {
        DUE.about("FORETOLD, with RUNGS as they are now, CLIMBERS from the ground");
        OldLadder x = done("ladder 6;far 3;near 3");
        x.step(0, 3);
        x.step(0, 6);
        x.step(0, 7);
        is("he is up", x.count(5), 1);
        is("3 and 6 are spent: rows over 1 2 4 5", x.ways(1), waysOver(6, 0b011011, 3));
        is("he is one of them", x.largest(0), 2);
        is("far 2 5, near 1 4", x.order(3, NONE), 2);
        is("no mends", x.mends(3), 0);
        is("most", x.most(3, 0), 2);
        x.lower(0);
        is("on the ground, likewise", x.ways(1), waysOver(6, 0b011011, 3));
    }

    private static long waysOver(int h, int free, int stride) {
        IntPredicate isUp = row -> {
            int last = 0;
            for (int r = 1; r <= h + 1; r++) {
                if (r == h + 1 || (row >> r - 1 & 1) == 1) {
                    if (r - last > stride) {
                        return false;
                    }
                    last = r;
                }
            }
            return true;
        };
        long ways = 0;
        for (int row = 0; row < 1 << h; row++) {
            ways += (row & ~free) == 0 && isUp.test(row) ? 1 : 0;
        }
        return ways;
    }

    private static void nothingChanges() {
        DUE.about("FORETOLD (nothing changes)");
        Scene scene = new Scene("ladder 9;gone 4;weak 7 3;far 3;near 2;told 4;middle 6;far 6;load 4 1", x -> {
            x.step(0, 2);
            x.mind(2, 0b110);
            x.keep(0);
            x.climb(3);
            x.keep(1);
            x.lower(3);
            return Due.write(x, "sound 4;near");
        });
        for (int n = 0; n <= 6; n++) {
            int i = n;
            DUE.holds("most", scene.isLeft(x -> x.most(i, 0) + x.most(i, 1)));
            DUE.holds("spoilt", scene.isLeft(x -> x.spoilt(i, 1)));
            DUE.holds("both", scene.isLeft(x -> x.both(i)));
            DUE.holds("odds", scene.isLeft(x -> x.odds(i, 0) + x.odds(i, 1)));
            DUE.holds("order", scene.isLeft(x -> x.order(31, i - 1)));
            DUE.holds("fits", scene.isLeft(x -> x.fits(i, 0) + x.fits(i, 1)));
            DUE.holds("make", scene.isLeft(x -> x.make(i, 20)));
            DUE.holds("count", scene.isLeft(x -> x.count(i)));
            DUE.holds("rung", scene.isLeft(x -> x.rung(i, 3)));
            DUE.holds("climber", scene.isLeft(x -> x.climber(i, 4)));
            DUE.holds("as", scene.isLeft(x -> x.as(i, 0)));
        }
        for (int set = 0; set < 32; set++) {
            int those = set;
            DUE.holds("ways", scene.isLeft(x -> x.ways(those)));
            DUE.holds("mends", scene.isLeft(x -> x.mends(those)));
        }
        DUE.holds("largest", scene.isLeft(x -> x.largest(0) + x.largest(1)));
        DUE.holds("fault", scene.isLeft(x -> x.fault()));
    }

    private static void upToTheLastCall() {
        DUE.about("an object is used for at most 512 calls after it has been made");
        OldLadder x = new OldLadder();
        x.write(0x3620726166L, 5);
        is("far 6", x.ladder(), 1);
        x.write(0x3120646e756f73L, 7);
        is("sound 1", x.ladder(), 1);
        for (int calls = 4; calls < 508; calls += 4) {
            is("climb behind " + calls, x.climb(0), 9);
            is("lower behind " + calls, x.lower(0), 9);
            x.write(0x3120646e756f73L, 7);
            is("ladder behind " + calls, x.ladder(), 1);
        }
        is("call 509", x.climb(0), 9);
        is("call 510", x.lower(0), 9);
        is("call 511", x.climb(0), 9);
        is("call 512", x.count(3), 0b110000);
    }
}
