/** Every call with every pair of numbers at, beside and far beyond the bounds, each answer held against that of Plain. */
public final class ExtremesTest {
    private static final int[] NUMBERS = {
        Integer.MIN_VALUE, Integer.MIN_VALUE + 1, -1073741824, -65536, -257, -256, -64, -33, -32, -31, -21, -20, -9, -8, -7,
        -6, -5, -4, -3, -2, -1, 0, 1, 2, 3, 4, 5, 6, 7, 8, 9, 10, 11, 12, 13, 15, 16, 19, 20, 21, 22, 31, 32, 33, 63, 64,
        99, 100, 127, 128, 200, 255, 256, 511, 65535, 65536, 524287, 524288, 1048575, 1048576, 1048577, 1 << 30,
        Integer.MAX_VALUE - 1, Integer.MAX_VALUE};
    private static final String[] TEXTS = {
        "ladder 1;far 1", "ladder 20;far 6;near 6;middle 6;told 6;far 6;weak 20 0;gone 1;weak 7 10", "nobody",
        "ladder 5;told 6;near 5;gone 3;weak 2 5", "ladder 8;told 3;middle 4;load 0 1;load 1 5;near 2;far 2;told 1"};
    private static final int MOST_CALLS = 480;
    private static final int CALLS = 23;
    private static final Due DUE = new Due();

    private final String text;
    private OldLadder x;
    private Plain plain;
    private int made;

    private ExtremesTest(String text) {
        this.text = text;
        begin();
    }

    public static void main(String[] args) {
        for (String text : TEXTS) {
            DUE.about(text);
            ExtremesTest test = new ExtremesTest(text);
            for (int call = 0; call < CALLS; call++) {
                test.oneCall(call);
            }
        }
        DUE.end("ExtremesTest");
    }

    private void begin() {
        x = Due.told(text);
        plain = new Plain();
        for (int i = 0; i < text.length(); i++) {
            plain.write(text.charAt(i), 1);
        }
        plain.ladder();
        made = 0;
    }

    private void oneCall(int call) {
        for (int a : NUMBERS) {
            for (int b : NUMBERS) {
                if (made > MOST_CALLS) {
                    begin();
                }
                made++;
                one(call, a, b);
            }
        }
    }

    private static void is(String call, int a, int b, long got, long want) {
        if (want != Plain.NOT_TRIED) {
            DUE.is(call + " " + a + " " + b, got, want);
        }
    }

    private void one(int call, int a, int b) {
        switch (call) {
            case 0: is("write", a, b, x.write(a, b), plain.write(a, b)); break;
            case 1: is("rung", a, b, x.rung(a, b), plain.rung(a, b)); break;
            case 2: is("climber", a, b, x.climber(a, b), plain.climber(a, b)); break;
            case 3: is("as", a, b, x.as(a, b), plain.as(a, b)); break;
            case 4: is("mind", a, b, x.mind(a, b), plain.mind(a, b)); break;
            case 5: is("step", a, b, x.step(a, b), plain.step(a, b)); break;
            case 6: is("climb", a, b, x.climb(a), plain.climb(a)); break;
            case 7: is("judge", a, b, x.judge(a, b), plain.judge(a, b)); break;
            case 8: is("lower", a, b, x.lower(b), plain.lower(b)); break;
            case 9: is("keep", a, b, x.keep(b), plain.keep(b)); break;
            case 10: is("back", a, b, x.back(b), plain.back(b)); break;
            case 11: is("count", a, b, x.count(b), plain.count(b)); break;
            default: foretell(call, a, b); break;
        }
    }

    private void foretell(int call, int a, int b) {
        switch (call) {
            case 12: is("most", a, b, x.most(a, b), plain.most(a, b)); break;
            case 13: is("order", a, b, x.order(a, b), plain.order(a, b)); break;
            case 14: is("spoilt", a, b, x.spoilt(a, b), plain.spoilt(a, b)); break;
            case 15: is("odds", a, b, x.odds(a, b), plain.odds(a, b)); break;
            case 16: is("fits", a, b, x.fits(a, b), plain.fits(a, b)); break;
            case 17: is("make", a, b, x.make(a, b), plain.make(a, b)); break;
            case 18: onceOf(a, b); break;
            case 19: is("step", a, b, x.step(a, b), plain.step(a, b)); break;
            case 20: is("as", a, b, x.as(a, b), plain.as(a, b)); break;
            case 21: is("judge", a, b, x.judge(a, b), plain.judge(a, b)); break;
            default: is("rung", a, b, x.rung(a, b), plain.rung(a, b)); break;
        }
    }

    /** Calls of one number, each of which is dear in Plain. */
    private void onceOf(int a, int b) {
        if (b == 0) {
            is("ways", a, b, x.ways(a), plain.ways(a));
            is("mends", a, b, x.mends(a), plain.mends(a));
            is("both", a, b, x.both(a), plain.both(a));
            is("largest", a, b, x.largest(a), plain.largest(a));
        }
    }
}
