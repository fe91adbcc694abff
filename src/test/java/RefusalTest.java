import java.util.function.ToLongFunction;

/** "Refused, and nothing changes: UNKNOWN, OUTSIDE, NOT, FULL: the first of these that fits", of each call that can be. */
public final class RefusalTest {
    private static final int NONE = OldLadder.NONE;
    private static final int UNKNOWN = OldLadder.UNKNOWN;
    private static final int OUTSIDE = OldLadder.OUTSIDE;
    private static final int NOT = OldLadder.NOT;
    private static final int FULL = OldLadder.FULL;
    private static final int LEAST = Integer.MIN_VALUE;
    private static final int GREATEST = Integer.MAX_VALUE;
    private static final int SET = 1 << 9;
    private static final Due DUE = new Due();

    /** Nine rungs; 0 FAR is at the TOP, 1 NEAR on 1, 2 TOLD on the ground, 3 MIDDLE; a text that can be done; 0 is kept. */
    private static final Scene MANY = new Scene("ladder 9;gone 4;weak 7 3;far 3;near 2;told 4;middle 6", x -> {
        x.mind(2, 0b110);
        x.step(1, 1);
        x.keep(0);
        x.climb(0);
        return Due.write(x, "sound 4;near 3");
    });

    /** Four rungs, five climbers, and a text of 200 bytes with a fault. */
    private static final Scene FULL_TEXT = new Scene("ladder 4;far 1;near 1;told 1;middle 1;far 1", x -> {
        x.step(4, 1);
        return Due.write(x, "nobody;ladder 3;" + "far 1 ".repeat(30) + "gone");
    });

    /** Twenty rungs, of which 13 are weak, and one climber. */
    private static final Scene WEAK = new Scene("ladder 20;told 6", x -> {
        for (int r = 1; r <= 13; r++) {
            Due.write(x, "weak " + r + " 5");
            x.ladder();
        }
        return x.mind(0, 0xfffff);
    });

    private static final Scene NEW = new Scene("");

    public static void main(String[] args) {
        changesAreSeen();
        written();
        asked();
        taken();
        climbed();
        kept();
        foretoldByStride();
        foretoldOfSets();
        foretoldOfRungs();
        DUE.end("RefusalTest");
    }

    private static void refused(Scene scene, String call, int want, ToLongFunction<OldLadder> made) {
        DUE.is(call, scene.answer(made), want);
        DUE.holds(call + " changes nothing", scene.isLeft(made));
    }

    /** The one below and the one above, the least and the greatest int and those beside them. */
    private static int[] beyond(int least, int greatest) {
        return new int[] {least - 1, greatest + 1, LEAST, LEAST + 1, GREATEST, GREATEST - 1};
    }

    /** Else "changes nothing" would say nothing. */
    private static void changesAreSeen() {
        DUE.about("calls that are not refused");
        DUE.holds("write is seen", !MANY.isLeft(x -> x.write(' ', 1)));
        DUE.holds("erase is seen", !MANY.isLeft(x -> x.erase()));
        DUE.holds("ladder is seen", !MANY.isLeft(x -> x.ladder()));
        DUE.holds("mind is seen", !MANY.isLeft(x -> x.mind(2, 0b111)));
        DUE.holds("step is seen", !MANY.isLeft(x -> x.step(2, 2)));
        DUE.holds("climb is seen", !MANY.isLeft(x -> x.climb(3)));
        DUE.holds("lower is seen", !MANY.isLeft(x -> x.lower(0)));
        DUE.holds("keep is seen", !MANY.isLeft(x -> x.keep(0)));
        DUE.holds("keep is seen", !MANY.isLeft(x -> x.keep(1)));
        DUE.holds("back is seen", !MANY.isLeft(x -> x.back(0)));
        DUE.holds("the same twice is alike", MANY.isLeft(x -> x.count(0)));
    }

    private static void written() {
        DUE.about("write, ladder");
        for (int n : beyond(1, 8)) {
            refused(NEW, "write n " + n, OUTSIDE, x -> x.write(0, n));
            refused(MANY, "write n " + n, OUTSIDE, x -> x.write(Long.MIN_VALUE, n));
            refused(FULL_TEXT, "write n " + n + ", OUTSIDE ahead of FULL", OUTSIDE, x -> x.write(Long.MAX_VALUE, n));
        }
        for (int n = 1; n <= 8; n++) {
            int many = n;
            refused(FULL_TEXT, "write " + n, FULL, x -> x.write(0x2020202020202020L, many));
        }
        refused(NEW, "ladder", NOT, x -> x.ladder());
        refused(FULL_TEXT, "ladder", NOT, x -> x.ladder());
    }

    private static void asked() {
        DUE.about("rung, climber");
        for (int r : beyond(1, 9)) {
            refused(MANY, "rung " + r, UNKNOWN, x -> x.rung(r, 0));
            refused(MANY, "rung " + r + ", UNKNOWN ahead of OUTSIDE", UNKNOWN, x -> x.rung(r, 4));
            refused(MANY, "rung " + r + ", UNKNOWN ahead of OUTSIDE", UNKNOWN, x -> x.rung(r, LEAST));
        }
        for (int what : beyond(0, 3)) {
            refused(MANY, "rung 9, what " + what, OUTSIDE, x -> x.rung(9, what));
            refused(MANY, "rung 1, what " + what, OUTSIDE, x -> x.rung(1, what));
        }
        for (int i : beyond(0, 3)) {
            refused(MANY, "climber " + i, UNKNOWN, x -> x.climber(i, 0));
            refused(MANY, "climber " + i + ", UNKNOWN ahead of OUTSIDE", UNKNOWN, x -> x.climber(i, 5));
            refused(MANY, "climber " + i + ", UNKNOWN ahead of OUTSIDE", UNKNOWN, x -> x.climber(i, -1));
        }
        for (int what : beyond(0, 4)) {
            refused(MANY, "climber 3, what " + what, OUTSIDE, x -> x.climber(3, what));
            refused(MANY, "climber 0, what " + what, OUTSIDE, x -> x.climber(0, what));
        }
        refused(NEW, "climber 0 of none", UNKNOWN, x -> x.climber(0, 9));
        refused(FULL_TEXT, "climber 5 of five", UNKNOWN, x -> x.climber(5, 0));
    }

    private static void taken() {
        DUE.about("as, mind");
        for (int i : beyond(0, 3)) {
            refused(MANY, "as of " + i, UNKNOWN, x -> x.as(i, 0));
            refused(MANY, "as of " + i + ", UNKNOWN ahead of OUTSIDE", UNKNOWN, x -> x.as(i, 5));
            refused(MANY, "as of " + i + ", UNKNOWN ahead of NOT", UNKNOWN, x -> x.as(i, 4));
            refused(MANY, "mind of " + i, UNKNOWN, x -> x.mind(i, 1));
            refused(MANY, "mind of " + i + " and a set with 10", UNKNOWN, x -> x.mind(i, SET));
        }
        for (int kind : beyond(0, 4)) {
            refused(MANY, "as " + kind, OUTSIDE, x -> x.as(1, kind));
            refused(MANY, "as " + kind + " at the TOP, OUTSIDE ahead of NOT", OUTSIDE, x -> x.as(0, kind));
        }
        refused(MANY, "he is none such", NOT, x -> x.as(1, 1));
        refused(MANY, "he is none such", NOT, x -> x.as(2, 3));
        refused(MANY, "at the TOP", NOT, x -> x.as(0, 0));
        refused(MANY, "at the TOP, as he is", NOT, x -> x.as(0, 1));
        refused(MANY, "at the TOP, and none such", NOT, x -> x.as(0, 4));
        for (int set : new int[] {SET, SET | 511, -1, LEAST, GREATEST, 1 << 30, LEAST | 1}) {
            refused(MANY, "mind " + set, UNKNOWN, x -> x.mind(2, set));
            refused(MANY, "mind " + set + ", UNKNOWN ahead of NOT", UNKNOWN, x -> x.mind(0, set));
        }
        refused(MANY, "mind of a FAR one", NOT, x -> x.mind(0, 0));
        refused(MANY, "mind of a NEAR one", NOT, x -> x.mind(1, 511));
        refused(MANY, "mind of a MIDDLE one", NOT, x -> x.mind(3, 1));
    }

    private static void climbed() {
        DUE.about("step, climb, lower, judge");
        for (int i : beyond(0, 3)) {
            refused(MANY, "step of " + i, UNKNOWN, x -> x.step(i, 2));
            refused(MANY, "step of " + i + ", UNKNOWN ahead of NOT", UNKNOWN, x -> x.step(i, 4));
            refused(MANY, "climb of " + i, UNKNOWN, x -> x.climb(i));
            refused(MANY, "lower of " + i, UNKNOWN, x -> x.lower(i));
            refused(MANY, "judge of " + i, UNKNOWN, x -> x.judge(i, 0));
            refused(MANY, "judge of " + i + " and a set with 10", UNKNOWN, x -> x.judge(i, SET));
        }
        for (int r : beyond(1, 10)) {
            refused(MANY, "step to " + r, UNKNOWN, x -> x.step(2, r));
            refused(MANY, "step to " + r + " from the TOP, UNKNOWN ahead of NOT", UNKNOWN, x -> x.step(0, r));
        }
        refused(MANY, "step to where he is", NOT, x -> x.step(1, 1));
        refused(MANY, "step down", NOT, x -> x.step(0, 8));
        refused(MANY, "step from the TOP to the TOP", NOT, x -> x.step(0, 10));
        refused(MANY, "step too far", NOT, x -> x.step(2, 5));
        refused(MANY, "step to one that is gone", NOT, x -> x.step(2, 4));
        refused(MANY, "step to one that is spent", NOT, x -> x.step(2, 1));
        refused(MANY, "step to the TOP, too far", NOT, x -> x.step(3, 10));
        refused(MANY, "climb at the TOP", NOT, x -> x.climb(0));
        for (int set : new int[] {SET, SET | 511, -1, LEAST, GREATEST, 1 << 30, LEAST | 1}) {
            refused(MANY, "judge " + set, UNKNOWN, x -> x.judge(2, set));
        }
        refused(NEW, "climb of nobody", UNKNOWN, x -> x.climb(0));
        refused(NEW, "lower of nobody", UNKNOWN, x -> x.lower(0));
    }

    private static void kept() {
        DUE.about("keep, back");
        for (int k : beyond(0, 1)) {
            refused(MANY, "keep " + k, UNKNOWN, x -> x.keep(k));
            refused(MANY, "back " + k, UNKNOWN, x -> x.back(k));
            refused(NEW, "back " + k + ", UNKNOWN ahead of NOT", UNKNOWN, x -> x.back(k));
        }
        refused(MANY, "back 1", NOT, x -> x.back(1));
        refused(NEW, "back 0", NOT, x -> x.back(0));
        refused(FULL_TEXT, "back 0", NOT, x -> x.back(0));
    }

    private static void foretoldByStride() {
        DUE.about("most, spoilt, both, odds");
        for (int r : beyond(1, 6)) {
            refused(MANY, "most " + r, OUTSIDE, x -> x.most(r, 0));
            refused(MANY, "spoilt " + r, OUTSIDE, x -> x.spoilt(r, 0));
            refused(MANY, "both " + r, OUTSIDE, x -> x.both(r));
            refused(MANY, "odds " + r, OUTSIDE, x -> x.odds(r, 0));
            refused(WEAK, "odds " + r + ", OUTSIDE ahead of NOT", OUTSIDE, x -> x.odds(r, 1));
        }
        for (int what : beyond(0, 1)) {
            refused(MANY, "most 3, what " + what, OUTSIDE, x -> x.most(3, what));
            refused(FULL_TEXT, "most with the TOP in reach, what " + what, OUTSIDE, x -> x.most(6, what));
            refused(MANY, "odds 3, part " + what, OUTSIDE, x -> x.odds(3, what));
            refused(WEAK, "odds 3, part " + what + ", OUTSIDE ahead of NOT", OUTSIDE, x -> x.odds(3, what));
        }
        for (int k : beyond(0, 9)) {
            refused(MANY, "spoilt to " + k, OUTSIDE, x -> x.spoilt(3, k));
            refused(FULL_TEXT, "spoilt with the TOP in reach to " + k, OUTSIDE, x -> x.spoilt(6, k));
        }
        for (int r = 1; r <= 6; r++) {
            int stride = r;
            refused(WEAK, "odds " + r + " of 13", NOT, x -> x.odds(stride, 0));
        }
    }

    private static void foretoldOfSets() {
        DUE.about("ways, largest, order, mends, make");
        for (int set : new int[] {16, 31, -1, LEAST, GREATEST, 1 << 30, LEAST | 1, -16}) {
            refused(MANY, "ways " + set, UNKNOWN, x -> x.ways(set));
            refused(MANY, "order " + set, UNKNOWN, x -> x.order(set, NONE));
            refused(MANY, "order " + set + ", UNKNOWN ahead of OUTSIDE", UNKNOWN, x -> x.order(set, -2));
            refused(MANY, "order " + set + ", UNKNOWN ahead of OUTSIDE", UNKNOWN, x -> x.order(set, LEAST));
            refused(MANY, "order " + set + ", and none such", UNKNOWN, x -> x.order(set, GREATEST));
            refused(MANY, "mends " + set, UNKNOWN, x -> x.mends(set));
            refused(MANY, "make " + set, UNKNOWN, x -> x.make(set, 9));
            refused(MANY, "make " + set + ", UNKNOWN ahead of OUTSIDE", UNKNOWN, x -> x.make(set, 0));
            refused(MANY, "make " + set + ", UNKNOWN ahead of OUTSIDE", UNKNOWN, x -> x.make(set, 21));
        }
        for (int what : beyond(0, 1)) {
            refused(MANY, "largest " + what, OUTSIDE, x -> x.largest(what));
            refused(NEW, "largest of nobody " + what, OUTSIDE, x -> x.largest(what));
        }
        for (int i : new int[] {-2, -3, LEAST, LEAST + 1}) {
            refused(MANY, "order 15, i " + i, OUTSIDE, x -> x.order(15, i));
            refused(MANY, "order 0, i " + i, OUTSIDE, x -> x.order(0, i));
        }
        for (int h : beyond(1, 20)) {
            refused(MANY, "make 15, h " + h, OUTSIDE, x -> x.make(15, h));
            refused(MANY, "make 0, h " + h, OUTSIDE, x -> x.make(0, h));
        }
        refused(NEW, "ways 1 of nobody", UNKNOWN, x -> x.ways(1));
    }

    private static void foretoldOfRungs() {
        DUE.about("fits, count");
        for (int set : new int[] {SET, SET | 511, -1, LEAST, GREATEST, 1 << 30, LEAST | 1}) {
            refused(MANY, "fits " + set, UNKNOWN, x -> x.fits(set, 0));
            refused(MANY, "fits " + set + ", UNKNOWN ahead of OUTSIDE", UNKNOWN, x -> x.fits(set, 2));
            refused(MANY, "fits " + set + ", UNKNOWN ahead of OUTSIDE", UNKNOWN, x -> x.fits(set, -1));
        }
        for (int what : beyond(0, 1)) {
            refused(MANY, "fits 511, what " + what, OUTSIDE, x -> x.fits(511, what));
            refused(MANY, "fits 0, what " + what, OUTSIDE, x -> x.fits(0, what));
        }
        for (int what : beyond(0, 6)) {
            refused(MANY, "count " + what, OUTSIDE, x -> x.count(what));
            refused(FULL_TEXT, "count " + what, OUTSIDE, x -> x.count(what));
        }
    }
}
