/** Each promise by hand: ordinary inputs, the edges that the document names, wrong inputs. */
public final class PromiseTest {
    private static final int NONE = OldLadder.NONE;
    private static final int UNKNOWN = OldLadder.UNKNOWN;
    private static final int OUTSIDE = OldLadder.OUTSIDE;
    private static final int NOT = OldLadder.NOT;
    private static final int FULL = OldLadder.FULL;
    private static final int[] WRONG = {Integer.MIN_VALUE, -7, -2, 21, 64, Integer.MAX_VALUE};
    private static final Due DUE = new Due();

    public static void main(String[] args) {
        newObject();
        write();
        erase();
        faultOfWords();
        faultOfNumbers();
        faultOfLines();
        faultBehindLinesAhead();
        ladder();
        ladderStartsAnew();
        rung();
        climber();
        as();
        mind();
        step();
        climb();
        lower();
        judge();
        keepAndBack();
        most();
        ways();
        largest();
        order();
        mends();
        spoilt();
        both();
        odds();
        fits();
        make();
        count();
        DUE.end("PromiseTest");
    }

    private static void is(String call, long got, long want) {
        DUE.is(call, got, want);
    }

    private static void newObject() {
        DUE.about("promise 1");
        OldLadder x = new OldLadder();
        is("h", x.count(0), 8);
        is("climbers", x.count(1), 0);
        is("free", x.count(2), 255);
        is("spent", x.count(3), 0);
        is("gone", x.count(4), 0);
        is("at the top", x.count(5), 0);
        is("bytes", x.count(6), 0);
        for (int r = 1; r <= 8; r++) {
            is("sound", x.rung(r, 0), 0);
            is("tenths", x.rung(r, 1), 10);
            is("free", x.rung(r, 2), 1);
            is("who", x.rung(r, 3), NONE);
        }
        is("kept 0", x.back(0), NOT);
        is("kept 1", x.back(1), NOT);
    }

    private static void write() {
        DUE.about("promise 2");
        OldLadder x = new OldLadder();
        is("n 0", x.write('a', 0), OUTSIDE);
        is("n 9", x.write('a', 9), OUTSIDE);
        is("n -1", x.write('a', -1), OUTSIDE);
        is("n least", x.write('a', Integer.MIN_VALUE), OUTSIDE);
        is("n most", x.write('a', Integer.MAX_VALUE), OUTSIDE);
        is("bytes then", x.count(6), 0);
        is("one", x.write(-1L, 1), 1);
        is("eight", x.write(-1L, 8), 9);
        is("a byte of 255 is a fault", x.fault(), 0);
        x.erase();
        is("lower byte first", x.write(0x79_64_6f_62_6f_6eL, 6), 6);
        is("nobody", x.fault(), NONE);
        for (int i = 0; i < 24; i++) {
            is("more", x.write(0x2020202020202020L, 8), 14 + 8 * i);
        }
        is("198 and 8", x.write(0, 8), FULL);
        is("198 and 3", x.write(0, 3), FULL);
        is("198 and 9", x.write(0, 9), OUTSIDE);
        is("still", x.count(6), 198);
        is("still no fault", x.fault(), NONE);
        is("198 and 2", x.write(0x2020, 2), 200);
        is("200 and 1", x.write(0, 1), FULL);
        is("200 bytes stand", x.ladder(), 1);
        is("upper bytes are left", x.write(0x3020L << 32 | 0x656e6f67L, 4), 4);
        is("gone", x.fault(), 4);
        x.erase();
        is("the byte of the sign", x.write(0x8000000000000000L, 8), 8);
        is("is not carried", x.fault(), 0);
    }

    private static void erase() {
        DUE.about("promise 3");
        OldLadder x = new OldLadder();
        is("nothing", x.erase(), 0);
        Due.write(x, "far 3;told 2");
        is("had", x.erase(), 12);
        is("has", x.count(6), 0);
        is("again", x.erase(), 0);
        Due.write(x, "gone 1");
        is("only what came later", x.ladder(), 1);
        is("no climbers", x.count(1), 0);
        is("gone", x.count(4), 1);
    }

    private static void fault(OldLadder x, String text, int want) {
        is("fault of '" + text + "'", Due.faultOf(x, text), want);
    }

    private static void faultOfWords() {
        DUE.about("promise 4");
        OldLadder x = new OldLadder();
        fault(x, "", 0);
        fault(x, "   ", 3);
        fault(x, "nobody", NONE);
        fault(x, "  nobody  ", NONE);
        fault(x, "nobodyy", 0);
        fault(x, "nobod", 0);
        fault(x, " Nobody", 1);
        fault(x, "nobodY", 0);
        fault(x, "nobodyY", 6);
        fault(x, "no body", 0);
        fault(x, "\tnobody", 0);
        fault(x, "nobody\t", 6);
        fault(x, "nobody.", 6);
        fault(x, "nobody nobody", 7);
        fault(x, "nobody 1", 7);
        fault(x, "3", 0);
        fault(x, "`nobody", 0);
        fault(x, "{", 0);
        fault(x, "gonefar 3", 0);
        fault(x, "lone 3", 0);
        fault(x, "gond 3", 0);
        fault(x, "nobody 59 nobody", 7);
        fault(x, "far", 3);
        fault(x, "far  ", 5);
        fault(x, "far near", 4);
        fault(x, "far ;", 4);
        fault(x, "far/3", 3);
        fault(x, "far:3", 3);
        fault(x, "far-3", 3);
        fault(x, "nobody\u00e1", 6);
        fault(x, "nobody" + (char) 0, 6);
    }

    private static void faultOfNumbers() {
        OldLadder x = new OldLadder();
        for (String kind : new String[] {"far", "near", "middle", "told"}) {
            int at = kind.length() + 1;
            fault(x, kind + " 1", NONE);
            fault(x, kind + "6", NONE);
            fault(x, kind + " 06", NONE);
            fault(x, kind + " 0", at);
            fault(x, kind + " 7", at);
            fault(x, kind + " 003", at);
            fault(x, kind + " 3 4", at + 2);
            fault(x, kind + " 3a", at + 1);
        }
        fault(x, "ladder 1", NONE);
        fault(x, "ladder 20", NONE);
        fault(x, "ladder 0", 7);
        fault(x, "ladder 00", 7);
        fault(x, "ladder 21", 7);
        fault(x, "ladder 020", 7);
        fault(x, "ladder 4294967297", 7);
        fault(x, "ladder 2 0", 9);
        fault(x, "gone 8", NONE);
        fault(x, "gone 08", NONE);
        fault(x, "gone 9", 5);
        fault(x, "gone 0", 5);
        fault(x, "sound 8", NONE);
        fault(x, "sound 9", 6);
        fault(x, "sound 0", 6);
        fault(x, "weak 8 0", NONE);
        fault(x, "weak 1 10", NONE);
        fault(x, "weak 1 11", 7);
        fault(x, "weak 1 010", 7);
        fault(x, "weak 9 1", 5);
        fault(x, "weak 0 1", 5);
        fault(x, "weak 11", 5);
        fault(x, "weak 1", 6);
        fault(x, "weak 1;", 6);
        fault(x, "weak 1 2 3", 9);
        fault(x, "load 0 1", 5);
        fault(x, "load", 4);
        fault(x, "far 3;load 0 5", NONE);
        fault(x, "far 3;load 00 05", NONE);
        fault(x, "far 3;load 0 0", NONE);
        fault(x, "far 3;load 0 6", 13);
        fault(x, "far 3;load 1 1", 11);
        fault(x, "far 3;load 0", 12);
    }

    private static void faultOfLines() {
        OldLadder x = new OldLadder();
        fault(x, ";", 0);
        fault(x, "nobody;", 7);
        fault(x, "nobody; ", 8);
        fault(x, "nobody;;nobody", 7);
        fault(x, ";nobody", 0);
        fault(x, "nobody ; nobody", NONE);
        fault(x, "nobody,nobody", 6);
        String eleven = "nobody;".repeat(11);
        fault(x, eleven, 77);
        fault(x, eleven + "nobody", NONE);
        fault(x, eleven + "nobody  ", NONE);
        fault(x, eleven + "nobody;", 83);
        fault(x, eleven + "nobody  ;nobody", 85);
        fault(x, eleven + "nobody nobody", 84);
        fault(x, eleven + "nobod", 77);
    }

    private static void faultBehindLinesAhead() {
        OldLadder x = new OldLadder();
        fault(x, "ladder 9;gone 9", NONE);
        fault(x, "gone 9;ladder 9", 5);
        fault(x, "ladder 3;weak 4 1", 14);
        fault(x, "ladder 3;ladder 4;sound 4", NONE);
        fault(x, "ladder 3;gone 3;gone 3;sound 3", NONE);
        String five = "far 1;near 1;middle 1;told 1;far 1";
        fault(x, five, NONE);
        fault(x, five + ";far 1", 35);
        fault(x, five + "; told", 36);
        fault(x, five + ";middle 9", 35);
        fault(x, five + ";near;", 35);
        fault(x, five + ";load 4 1", NONE);
        fault(x, five + ";load 5 1", 40);
        fault(x, five + ";nobody;far 1", NONE);
        fault(x, five + ";nobody;load 0 1", 47);
        fault(x, "far 7;gone 9", 4);
        is("ladder with a fault", x.ladder(), NOT);
        is("a fault leaves the text", x.count(6), 12);
        is("fault again", x.fault(), 4);
        OldLadder y = Due.told("ladder 3;" + five);
        fault(y, "gone 3", NONE);
        fault(y, "gone 4", 5);
        fault(y, "far 1", 0);
        fault(y, "load 4 0", NONE);
        fault(y, "nobody;load 4 0", 12);
    }

    private static void ladder() {
        DUE.about("promise 5");
        OldLadder x = new OldLadder();
        is("nothing", x.ladder(), NOT);
        Due.write(x, "gone2;weak 3 4;far6 ;near 5;load 1 2;sound 8;");
        is("too soon", x.ladder(), NOT);
        is("nothing changes", x.count(2), 255);
        is("nobody has come", x.count(1), 0);
        Due.write(x, "gone 7");
        is("seven", x.ladder(), 7);
        is("it is empty", x.count(6), 0);
        is("gone", x.count(4), 0b01000010);
        is("weak", x.rung(3, 1), 4);
        is("climbers", x.count(1), 2);
        is("load", x.climber(1, 2), 2);
        Due.write(x, "weak 2 0;gone 3;sound 7;told 1");
        is("four", x.ladder(), 4);
        is("what was gone is weak", x.rung(2, 0), 1);
        is("by 0", x.rung(2, 1), 0);
        is("and free", x.rung(2, 2), 1);
        is("what was weak is gone", x.rung(3, 0), 2);
        is("what was gone is sound", x.rung(7, 0), 0);
        is("what was told stays", x.count(1), 3);
        is("load stays", x.climber(1, 2), 2);
        Due.write(x, "sound 3;weak 3 10;sound 2");
        is("three", x.ladder(), 3);
        is("weak by 10", x.rung(3, 0), 1);
        is("its tenths", x.rung(3, 1), 10);
        is("sound", x.rung(2, 1), 10);
        Due.write(x, "gone 3;weak 4 4;ladder 12;gone 12");
        is("four", x.ladder(), 4);
        is("a new one is sound", x.rung(1, 0), 0);
        is("all of it", x.rung(3, 0), 0);
        is("all of it", x.rung(4, 0), 0);
        is("12 is gone", x.count(4), 1 << 11);
        is("climbers stay", x.count(1), 3);
        Due.write(x, "ladder 5;ladder 20");
        is("two", x.ladder(), 2);
        is("12 is sound again", x.count(4), 0);
        Due.write(x, "nobody;near 2;load 0 1;load 0 0");
        is("four", x.ladder(), 4);
        is("one", x.count(1), 1);
        is("he is near", x.climber(0, 0), 1);
        is("no load", x.climber(0, 2), 0);
        Due.write(x, "nobody;".repeat(11) + "nobody");
        is("twelve", x.ladder(), 12);
        is("nobody", x.count(1), 0);
        is("not even he", x.climber(0, 0), UNKNOWN);
        is("nor he", x.climb(0), UNKNOWN);
    }

    private static void ladderStartsAnew() {
        OldLadder x = Due.told("ladder 6;told 3;far 6;gone 5");
        x.mind(0, 3);
        x.keep(0);
        x.keep(1);
        x.climb(0);
        x.step(1, 3);
        is("on his way", x.climber(1, 4), 3);
        is("up", x.count(5), 1);
        Due.write(x, "gone 5;gone 5;gone");
        is("with a fault", x.ladder(), NOT);
        is("nothing changes", x.climber(1, 4), 3);
        is("it is kept", x.back(1), 0);
        x.climb(0);
        Due.write(x, "6");
        is("three", x.ladder(), 3);
        is("nobody is up", x.count(5), 0);
        is("on the ground", x.climber(1, 4), 0);
        is("none is spent", x.count(3), 0);
        is("who", x.rung(2, 3), NONE);
        is("free", x.count(2), 0b001111);
        is("nothing is kept at 0", x.back(0), NOT);
        is("nothing is kept at 1", x.back(1), NOT);
        is("he minds none", x.mind(0, 0), 0);
    }

    private static void rung() {
        DUE.about("promise 6");
        OldLadder x = Due.told("ladder 4;weak 1 0;weak 2 7;gone 3;far 2;near 1");
        is("no 0", x.rung(0, 0), UNKNOWN);
        is("no 5", x.rung(5, 0), UNKNOWN);
        is("unknown comes first", x.rung(5, 9), UNKNOWN);
        is("what 4", x.rung(1, 4), OUTSIDE);
        is("what -1", x.rung(1, -1), OUTSIDE);
        for (int wrong : WRONG) {
            is("rung " + wrong, x.rung(wrong, 0), UNKNOWN);
            is("what " + wrong, x.rung(4, wrong), OUTSIDE);
        }
        int[][] want = {{1, 0, 1, NONE}, {1, 7, 1, NONE}, {2, 0, 0, NONE}, {0, 10, 1, NONE}};
        for (int r = 1; r <= 4; r++) {
            for (int what = 0; what < 4; what++) {
                is("rung " + r + " " + what, x.rung(r, what), want[r - 1][what]);
            }
        }
        x.step(1, 1);
        x.climb(0);
        is("spent is weak still", x.rung(1, 0), 1);
        is("its tenths still", x.rung(2, 1), 7);
        is("not free", x.rung(1, 2), 0);
        is("by 1", x.rung(1, 3), 1);
        is("by 0", x.rung(2, 3), 0);
        is("4 by 0", x.rung(4, 3), 0);
        is("3 by none", x.rung(3, 3), NONE);
        x.lower(0);
        is("by 0 still", x.rung(2, 3), 0);
    }

    private static void climber() {
        DUE.about("promise 7");
        OldLadder x = Due.told("ladder 3;far 6;near 5;middle 4;told 3;far 1;load 0 5;load 1 1;load 2 5;load 4 1");
        int[][] want = {{0, 6, 5, 1}, {1, 5, 1, 4}, {2, 4, 5, 1}, {3, 3, 0, 3}, {0, 1, 1, 1}};
        for (int i = 0; i < 5; i++) {
            for (int what = 0; what < 4; what++) {
                is("climber " + i + " " + what, x.climber(i, what), want[i][what]);
            }
            is("on the ground", x.climber(i, 4), 0);
            is("what 5", x.climber(i, 5), OUTSIDE);
            is("what -1", x.climber(i, -1), OUTSIDE);
        }
        is("none such", x.climber(5, 0), UNKNOWN);
        is("unknown comes first", x.climber(-1, 5), UNKNOWN);
        for (int wrong : WRONG) {
            is("climber " + wrong, x.climber(wrong, 0), UNKNOWN);
            is("what " + wrong, x.climber(0, wrong), OUTSIDE);
        }
        x.step(3, 2);
        is("on a rung", x.climber(3, 4), 2);
        x.step(1, 4);
        is("at the top", x.climber(1, 4), 4);
    }

    private static void as() {
        DUE.about("promise 8");
        OldLadder x = Due.told("ladder 9;gone 2;far 4;near 4;middle 4;told 4;near 1");
        int[][] want = {
            {4, 4, NOT, NOT, NOT}, {1, NOT, 1, NOT, NOT}, {3, NOT, 3, 3, NOT}, {4, 4, NOT, NOT, 4}};
        for (int i = 0; i < 4; i++) {
            for (int kind = 0; kind <= 4; kind++) {
                is("as " + i + " " + kind, x.as(i, kind), want[i][kind]);
            }
        }
        is("none such", x.as(5, 0), UNKNOWN);
        is("unknown comes first", x.as(5, 5), UNKNOWN);
        is("kind 5", x.as(0, 5), OUTSIDE);
        is("kind -1", x.as(0, -1), OUTSIDE);
        for (int wrong : WRONG) {
            is("climber " + wrong, x.as(wrong, 0), UNKNOWN);
            is("kind " + wrong, x.as(0, wrong), OUTSIDE);
        }
        is("nothing changes", x.count(3), 0);
        x.mind(3, 0b0000101);
        is("the highest that he minds", x.as(3, 1), 3);
        x.mind(3, 0b0010010);
        is("none that is free and in his stride", x.as(3, 4), 4);
        x.step(3, 4);
        is("and now there is", x.as(3, 0), 5);
        is("one less", x.as(0, 0), 3);
        is("of two the lower", x.as(2, 3), 1);
        x.step(4, 1);
        is("one fewer, the middle", x.as(2, 0), 3);
        is("none", x.as(4, 2), NONE);
        x.step(0, 3);
        x.step(0, 6);
        is("in his stride", x.as(0, 1), 10);
        x.step(0, 10);
        is("at the top", x.as(0, 1), NOT);
        is("kind comes first", x.as(0, 9), OUTSIDE);
    }

    private static void mind() {
        DUE.about("promise 9");
        OldLadder x = Due.told("ladder 6;gone 4;told 3;far 3;near 3;middle 3");
        is("none at first", x.mind(0, 0b101010), 0);
        is("those", x.mind(0, 0b111111), 0b101010);
        is("all", x.mind(0, 0), 0b111111);
        is("none", x.mind(0, 0), 0);
        is("a set with 7", x.mind(0, 64), UNKNOWN);
        is("a set below 0", x.mind(0, -1), UNKNOWN);
        is("the bit of the sign", x.mind(0, Integer.MIN_VALUE), UNKNOWN);
        is("no such", x.mind(4, 1), UNKNOWN);
        is("not told", x.mind(1, 1), NOT);
        is("near", x.mind(2, 1), NOT);
        is("middle", x.mind(3, 1), NOT);
        is("the set comes first", x.mind(1, 64), UNKNOWN);
        for (int wrong : WRONG) {
            is("climber " + wrong, x.mind(wrong, 0), UNKNOWN);
        }
        is("refused, nothing changes", x.mind(0, 2), 0);
        is("he heeds it", x.climb(0), 7);
        is("2, 5", x.count(3), 0b010010);
        x.lower(0);
        is("he minds it still", x.mind(0, 0), 2);
    }

    private static void step() {
        DUE.about("promise 10");
        OldLadder x = Due.told("ladder 5;gone 3;weak 2 0;far 2;near 5;far 6");
        is("no such climber", x.step(3, 1), UNKNOWN);
        is("no 0", x.step(0, 0), UNKNOWN);
        is("no 7", x.step(0, 7), UNKNOWN);
        for (int wrong : WRONG) {
            is("climber " + wrong, x.step(wrong, 1), UNKNOWN);
            is("rung " + wrong, x.step(0, wrong), UNKNOWN);
        }
        is("gone", x.step(1, 3), NOT);
        is("too far", x.step(0, 4), NOT);
        is("weak holds", x.step(0, 2), 2);
        is("spent", x.count(3), 0b10);
        is("not where he is", x.step(0, 2), NOT);
        is("not down", x.step(0, 1), NOT);
        is("spent for others", x.step(1, 2), NOT);
        is("others", x.step(1, 1), 1);
        is("as far as his stride", x.step(1, 6), 6);
        is("not from the top", x.step(1, 6), NOT);
        is("nor down from it", x.step(1, 5), NOT);
        is("the top is too far", x.step(0, 6), NOT);
        is("from the ground to the top", x.step(2, 6), 6);
        is("the top is not spent", x.count(3), 0b11);
        is("up to 4", x.step(0, 4), 4);
        is("to the top", x.step(0, 6), 6);
        is("all", x.count(5), 7);
    }

    private static void climb() {
        DUE.about("promise 11");
        OldLadder x = Due.told("ladder 20;far 3;near 2;middle 5;told 4");
        is("no such", x.climb(4), UNKNOWN);
        for (int wrong : WRONG) {
            is("climber " + wrong, x.climb(wrong), UNKNOWN);
        }
        is("far", x.climb(0), 21);
        is("by 3s", x.count(3), 0b100100100100100100);
        is("once", x.climb(0), NOT);
        is("middle", x.climb(2), 21);
        // Of 1 2 4 5 he takes 2, of 4 5 7 then 5, and so on up to 17, from which the top is in his stride.
        is("his", x.count(3), 0b100100100100100100 | 0b10010010010010010);
        is("told as far", x.climb(3), 21);
        is("4 7 10 13 16 20", x.rung(20, 3), 3);
        is("near sticks at 1", x.climb(1), 1);
        OldLadder all = Due.told("ladder 20;near 1");
        is("one by one", all.climb(0), 21);
        is("each is spent", all.count(3), 0xfffff);
        OldLadder y = Due.told("ladder 7;gone 5;gone 6;near 2;far 6;told 3;middle 2");
        is("he stays where he is", y.climb(0), 4);
        is("1 .. 4 are spent", y.count(3), 0b1111);
        is("and again", y.climb(0), 4);
        is("none is in his stride", y.climb(3), 0);
        is("and none here", y.climb(2), 0);
        is("from where he is", y.climb(1), 0);
        OldLadder z = Due.told("ladder 7;far 3;told 3;middle 3;near 6");
        z.step(0, 1);
        is("from where he is", z.climb(0), 8);
        is("1, 4, 7", z.count(3), 0b1001001);
        z.mind(1, 0b0000010);
        is("2, then far", z.climb(1), 8);
        is("2, 5", z.count(3), 0b1011011);
        is("the middle of one", z.climb(2), 8);
        is("3, 6", z.count(3), 0b1111111);
        is("nothing is free", z.climb(3), 0);
    }

    private static void lower() {
        DUE.about("promise 12");
        OldLadder x = Due.told("ladder 5;far 3;near 2");
        is("no such", x.lower(2), UNKNOWN);
        is("no such", x.lower(-1), UNKNOWN);
        for (int wrong : WRONG) {
            is("climber " + wrong, x.lower(wrong), UNKNOWN);
        }
        is("on the ground", x.lower(0), 0);
        x.climb(0);
        is("at the top", x.lower(0), 6);
        is("on the ground", x.climber(0, 4), 0);
        is("nobody is up", x.count(5), 0);
        is("rungs stay spent", x.count(3), 0b100);
        x.step(1, 2);
        is("on a rung", x.lower(1), 2);
        is("he can step again", x.step(1, 1), 1);
        is("not on it", x.step(1, 2), NOT);
    }

    private static void judge() {
        DUE.about("promise 13");
        OldLadder x = Due.told("ladder 8;gone 4;weak 3 0;near 3;far 2;far 6");
        is("no such", x.judge(3, 0), UNKNOWN);
        is("a set with 9", x.judge(0, 256), UNKNOWN);
        is("a set below 0", x.judge(0, -1), UNKNOWN);
        for (int wrong : WRONG) {
            is("climber " + wrong, x.judge(wrong, 0), UNKNOWN);
        }
        is("3, 6", x.judge(0, 0b00100100), NONE);
        is("3, 6, 7, 8", x.judge(0, 0b11100100), NONE);
        is("3, 4, 6", x.judge(0, 0b00101100), 4);
        is("3, 7", x.judge(0, 0b01000100), 7);
        is("1, 3, 6", x.judge(0, 0b00100101), NONE);
        is("1, 5", x.judge(0, 0b00010001), 5);
        is("2, 5", x.judge(0, 0b00010010), 9);
        is("nothing", x.judge(0, 0), 9);
        is("the first one", x.judge(0, 0b00001000), 4);
        is("3 for another", x.judge(1, 0b00100100), 3);
        is("6 feet", x.judge(2, 0b00000100), NONE);
        x.step(2, 1);
        is("1 is spent now", x.judge(0, 0b00100101), 1);
        x.step(0, 3);
        is("3 is spent now, for him too", x.judge(0, 0b00100100), 3);
        is("from the ground", x.judge(0, 0b00100000), 6);
        is("nothing changes", x.count(3), 0b101);
        is("he is there", x.climber(0, 4), 3);
    }

    private static void keepAndBack() {
        DUE.about("promises 14, 15");
        OldLadder x = Due.told("ladder 6;gone 6;far 2;near 3;told 5");
        for (int wrong : WRONG) {
            is("keep " + wrong, x.keep(wrong), UNKNOWN);
            is("back " + wrong, x.back(wrong), UNKNOWN);
        }
        is("keep 2", x.keep(2), UNKNOWN);
        is("back -1", x.back(-1), UNKNOWN);
        is("nothing yet", x.back(0), NOT);
        is("nothing is spent", x.keep(0), 0);
        is("only 0", x.back(1), NOT);
        x.step(0, 2);
        x.step(1, 1);
        is("how many", x.keep(1), 2);
        x.mind(2, 0b1000);
        x.climb(1);
        x.step(0, 3);
        is("4, 7", x.climber(1, 4), 7);
        is("back to 1", x.back(1), 2);
        is("spent", x.count(3), 0b11);
        is("0 is at 2", x.climber(0, 4), 2);
        is("1 is at 1", x.climber(1, 4), 1);
        is("4 is nobody's", x.rung(4, 3), NONE);
        is("2 is 0's", x.rung(2, 3), 0);
        is("what he minds is not kept", x.mind(2, 0), 0b1000);
        is("back to 0", x.back(0), 0);
        is("all on the ground", x.climber(0, 4), 0);
        is("none is spent", x.count(3), 0);
        x.step(1, 2);
        is("2 is 1's now", x.rung(2, 3), 1);
        is("back to 1 again", x.back(1), 2);
        is("2 is 0's again", x.rung(2, 3), 0);
        is("kept anew", x.keep(0), 2);
        x.lower(0);
        is("back to that", x.back(0), 2);
        is("0 is at 2 again", x.climber(0, 4), 2);
        Due.write(x, "nobody");
        is("a text that is not done", x.back(0), 2);
        x.ladder();
        is("nothing since the last text", x.back(0), NOT);
        is("nor there", x.back(1), NOT);
        is("unknown comes first", x.back(2), UNKNOWN);
        is("kept anew", x.keep(1), 0);
        is("there is one", x.back(1), 0);
    }

    private static void most() {
        DUE.about("promise 16");
        OldLadder x = Due.told("ladder 9;gone 2;gone 4;gone 8;weak 5 0;far 1");
        // free: 1 3 5 6 7 9
        int[] want = {0, 1, 1, 2, 3, 4};
        int[] low = {2, 1, 2, 1, 1, 1};
        for (int r = 1; r <= 6; r++) {
            is("most " + r, x.most(r, 0), want[r - 1]);
            is("stretch " + r, x.most(r, 1), low[r - 1]);
        }
        for (int wrong : WRONG) {
            is("stride " + wrong, x.most(wrong, 0), OUTSIDE);
            is("what " + wrong, x.most(1, wrong), OUTSIDE);
        }
        is("stride 0", x.most(0, 0), OUTSIDE);
        is("stride 7", x.most(7, 0), OUTSIDE);
        is("what 2", x.most(3, 2), OUTSIDE);
        is("what -1", x.most(3, -1), OUTSIDE);
        x.step(0, 1);
        is("spent ones count no more", x.most(4, 0), 1);
        is("the first", x.most(4, 1), 1);
        OldLadder y = Due.told("ladder 5;gone 1");
        is("the top in 6", y.most(6, 0), 99);
        is("no stretch", y.most(6, 1), NONE);
        is("the whole is one", y.most(5, 0), 4);
        is("from 1", y.most(5, 1), 1);
        OldLadder z = Due.told("ladder 20;gone 15;gone 20");
        is("the last one", z.most(6, 0), 4);
        is("15 .. 20", z.most(6, 1), 15);
        OldLadder one = Due.told("ladder 1");
        is("one rung", one.most(1, 0), 1);
        is("2 feet", one.most(2, 0), 99);
    }

    private static void ways() {
        DUE.about("promise 17");
        OldLadder x = Due.told("ladder 3;far 2;near 2;far 4;told 1");
        is("nobody", x.ways(0), 1);
        is("1 3, 2, 1 2, 2 3, 1 2 3", x.ways(1), 5);
        is("1 3 and 2", x.ways(3), 2);
        is("every set of rungs", x.ways(4), 8);
        is("all three", x.ways(8), 1);
        is("what is left over", x.ways(12), 1);
        is("13, 2, 12, 23, 123 and what is left", x.ways(5), 2 + 4 + 2 + 2 + 1);
        is("three", x.ways(7), 2);
        is("not all", x.ways(9), 0);
        is("a set with 4", x.ways(16), UNKNOWN);
        is("below 0", x.ways(-1), UNKNOWN);
        for (int wrong : WRONG) {
            is("set " + wrong, x.ways(wrong), UNKNOWN);
        }
        x.step(0, 2);
        is("from the ground, on 1 and 3", x.ways(1), 1);
        is("1, 3, both, none", x.ways(4), 4);
        is("too few", x.ways(3), 0);
        OldLadder y = Due.told("ladder 20;far 6;near 6;middle 6;told 6;far 6");
        is("five of six", y.ways(31), 46852920L);
        OldLadder z = Due.told("ladder 5;far 6;near 6;middle 6;told 6;far 6");
        is("six to the fifth", z.ways(31), 7776);
        is("four to the fifth", z.ways(21), 1024);
    }

    private static void largest() {
        DUE.about("promise 18");
        OldLadder x = Due.told("ladder 6;far 1;near 2;far 4;near 5;far 2");
        is("how many", x.largest(0), 3);
        is("which", x.largest(1), 0b01110);
        for (int wrong : WRONG) {
            is("what " + wrong, x.largest(wrong), OUTSIDE);
        }
        is("what 2", x.largest(2), OUTSIDE);
        is("what -1", x.largest(-1), OUTSIDE);
        x.step(4, 1);
        is("2 4 6, 3, 5 are left", x.largest(0), 3);
        is("the least set", x.largest(1), 0b01110);
        x.lower(4);
        x.step(4, 2);
        is("3 4 5 6 are left", x.largest(0), 2);
        is("those of strides 4 and 5", x.largest(1), 0b01100);
        OldLadder y = Due.told("ladder 6;near 1;told 1;far 2");
        is("one", y.largest(0), 1);
        is("the least", y.largest(1), 1);
        OldLadder z = Due.told("ladder 2;gone 1;gone 2;far 2;far 2");
        is("none", z.largest(0), 0);
        is("the empty set", z.largest(1), 0);
        OldLadder all = Due.told("ladder 20;far 6;near 6;middle 6;told 6;far 6");
        is("five", all.largest(0), 5);
        is("all", all.largest(1), 31);
    }

    private static void order() {
        DUE.about("promise 19");
        OldLadder x = Due.told("ladder 4;near 4;far 3;near 4;told 3");
        is("nobody", x.order(0, NONE), 0);
        is("no first one", x.order(0, 0), NONE);
        // Near of 4 treads the lowest that is left; far of 3 treads 3; told of 3 can tread 2, unless 2 got ahead of him.
        is("all are up", x.order(15, NONE), 4);
        is("0 first", x.order(15, 0), 0);
        is("then 1", x.order(15, 1), 1);
        is("then 3", x.order(15, 2), 3);
        is("then 2", x.order(15, 3), 2);
        is("no more", x.order(15, 4), NONE);
        is("most", x.order(15, Integer.MAX_VALUE), NONE);
        is("of two the first", x.order(10, 0), 1);
        is("the second", x.order(10, 1), 3);
        is("a set with 4", x.order(16, NONE), UNKNOWN);
        is("unknown comes first", x.order(16, -2), UNKNOWN);
        is("below NONE", x.order(1, -2), OUTSIDE);
        is("least", x.order(0, Integer.MIN_VALUE), OUTSIDE);
        for (int wrong : WRONG) {
            is("set " + wrong, x.order(wrong, 0), UNKNOWN);
        }
        is("nothing changes", x.count(3), 0);
        OldLadder y = Due.told("ladder 5;near 1;far 3;told 2");
        is("one who treads all is last", y.order(3, 0), 0);
        is("one is up either way", y.order(3, NONE), 1);
        is("two", y.order(7, NONE), 2);
        is("1 ahead", y.order(7, 0), 1);
        is("then 2", y.order(7, 1), 2);
        is("0 last, and not up", y.order(7, 2), 0);
        y.mind(2, 0b00001);
        is("1 2 4 behind 3", y.order(6, NONE), 2);
        y.mind(2, 0);
        y.step(1, 2);
        is("1 3 5 are left", y.order(4, NONE), 1);
        is("and one of 1 3 5 and 3", y.order(6, NONE), 1);
        is("of both rows the first", y.order(6, 0), 1);
        y.lower(1);
        is("from the ground", y.order(2, NONE), 1);
    }

    private static void mends() {
        DUE.about("promise 20");
        OldLadder x = Due.told("ladder 6;gone 1;gone 2;gone 3;gone 6;far 2;near 2;far 1;near 3");
        is("nobody", x.mends(0), 0);
        is("2, then 4, 5", x.mends(1), 1);
        is("two of stride 2", x.mends(3), 4);
        is("stride 1", x.mends(4), 4);
        is("stride 3: 3, 4 or 2, 5", x.mends(8), 1);
        is("all of the rungs are his", x.mends(5), NONE);
        is("three of 2 2 3", x.mends(11), NONE);
        is("a set with 4", x.mends(16), UNKNOWN);
        is("below 0", x.mends(-1), UNKNOWN);
        for (int wrong : WRONG) {
            is("set " + wrong, x.mends(wrong), UNKNOWN);
        }
        OldLadder y = Due.told("ladder 5;far 5;near 6;far 2");
        is("in 5 feet", y.mends(1), 0);
        is("at once", y.mends(2), 0);
        y.climb(0);
        is("spent", y.count(3), 0b10000);
        is("2, 4 are there", y.mends(4), 0);
        y.step(2, 2);
        is("1, 3, 4", y.mends(4), 0);
        is("5 feet, 1, 3, 4", y.mends(1), 0);
        is("both: 1, 3, 4 and 5", y.mends(5), 1);
        is("the ways are without mends", y.ways(5), 0);
    }

    private static void spoilt() {
        DUE.about("promise 21");
        OldLadder x = Due.told("ladder 9;gone 4;far 1");
        is("5 of 6 to 0", x.spoilt(6, 0), 5);
        is("to 3", x.spoilt(6, 3), 2);
        is("to 5", x.spoilt(6, 5), 0);
        is("to 9", x.spoilt(6, 9), 0);
        is("1 is none already", x.spoilt(1, 0), 0);
        is("2", x.spoilt(2, 0), 1);
        x.step(0, 1);
        is("1 .. 6 less 1 and 4", x.spoilt(6, 0), 4);
        for (int wrong : WRONG) {
            is("stride " + wrong, x.spoilt(wrong, 0), OUTSIDE);
            is("k " + wrong, x.spoilt(1, wrong), OUTSIDE);
        }
        is("stride 0", x.spoilt(0, 0), OUTSIDE);
        is("stride 7", x.spoilt(7, 0), OUTSIDE);
        is("k 10", x.spoilt(2, 10), OUTSIDE);
        is("k -1", x.spoilt(2, -1), OUTSIDE);
        OldLadder y = Due.told("ladder 5");
        is("never", y.spoilt(6, 9), NONE);
        is("outside comes first", y.spoilt(6, 10), OUTSIDE);
        is("5 feet", y.spoilt(5, 0), 5);
    }

    private static void both() {
        DUE.about("promise 22");
        OldLadder x = Due.told("ladder 9;far 1");
        for (int r = 1; r <= 6; r++) {
            is("both " + r, x.both(r), r / 2);
        }
        x.step(0, 1);
        is("1 is spent", x.both(6), 2);
        is("1 is spent", x.both(2), 0);
        for (int wrong : WRONG) {
            is("stride " + wrong, x.both(wrong), OUTSIDE);
        }
        is("stride 0", x.both(0), OUTSIDE);
        is("stride 7", x.both(7), OUTSIDE);
        OldLadder y = Due.told("ladder 5;gone 1;gone 2;gone 3;gone 4;gone 5");
        is("the top in 6", y.both(6), 99);
        is("not in 5", y.both(5), 0);
    }

    private static void isOdds(OldLadder x, int stride, long above, long below) {
        is("odds " + stride + " above", x.odds(stride, 0), above);
        is("odds " + stride + " below", x.odds(stride, 1), below);
    }

    private static void odds() {
        DUE.about("promise 23");
        OldLadder x = Due.told("ladder 3;weak 1 5;weak 2 4;far 3");
        isOdds(x, 1, 1, 5);
        isOdds(x, 2, 7, 10);
        isOdds(x, 3, 1, 1);
        isOdds(x, 6, 1, 1);
        x.step(0, 3);
        isOdds(x, 1, 0, 1);
        isOdds(x, 2, 2, 5);
        isOdds(x, 3, 7, 10);
        x.lower(0);
        x.step(0, 1);
        isOdds(x, 2, 2, 5);
        isOdds(x, 3, 2, 5);
        for (int wrong : WRONG) {
            is("stride " + wrong, x.odds(wrong, 0), OUTSIDE);
            is("part " + wrong, x.odds(1, wrong), OUTSIDE);
        }
        is("stride 0", x.odds(0, 0), OUTSIDE);
        is("stride 7", x.odds(7, 0), OUTSIDE);
        is("part 2", x.odds(1, 2), OUTSIDE);
        is("part -1", x.odds(1, -1), OUTSIDE);
        OldLadder gaps = Due.told("ladder 8;weak 1 5;gone 2;weak 3 9;sound 4;gone 5;weak 6 5;weak 7 5;weak 8 2");
        // By 2 he needs 1, 3, 6, and 7 or 8; by 3 he needs 1 or 3, and 6 or 7; by 4 he needs 6, 7 or 8.
        isOdds(gaps, 2, 27, 200);
        isOdds(gaps, 3, 57, 80);
        isOdds(gaps, 4, 4, 5);
        isOdds(gaps, 5, 1, 1);
        OldLadder wide = Due.told("ladder 7;gone 1;gone 2;gone 3;gone 4;gone 5;weak 6 3;weak 7 5");
        isOdds(wide, 5, 0, 1);
        isOdds(wide, 6, 3, 10);
        OldLadder edges = Due.told("ladder 4;weak 1 0;weak 2 10;weak 3 0;gone 4");
        isOdds(edges, 1, 0, 1);
        isOdds(edges, 2, 0, 1);
        isOdds(edges, 3, 1, 1);
        OldLadder y = Due.told("ladder 13;weak 1 1;weak 2 1;weak 3 1;weak 4 1;weak 5 1;weak 6 1;weak 7 1;weak 8 1");
        Due.write(y, "weak 9 1;weak 10 1;weak 11 1;weak 12 3;far 6");
        y.ladder();
        isOdds(y, 1, 3, 1000000000000L);
        Due.write(y, "weak 13 10");
        y.ladder();
        is("13 weak ones", y.odds(1, 0), NOT);
        is("13 weak ones", y.odds(6, 1), NOT);
        is("outside comes first", y.odds(7, 0), OUTSIDE);
        y.step(0, 6);
        is("12 of them are free", y.odds(1, 0), 0);
    }

    private static void fits() {
        DUE.about("promise 24");
        OldLadder x = Due.told("ladder 8;gone 4;far 6;load 0 5");
        is("2 3 5 7 8 are not his", x.fits(0b11010110, 0), 0);
        is("far of 2 sticks nowhere", x.fits(0b01010010, 0), 0);
        is("far of 3", x.fits(0b00100100, 0), 0b000100);
        is("far of 4: 3 7", x.fits(0b01000100, 0), 0b001000);
        is("far of 5", x.fits(0b00010000, 0), 0b010000);
        is("far of 6", x.fits(0b00100000, 0), 0b100000);
        is("near of 2 does not tread 8", x.fits(0b11110111, 1), 0);
        is("near of 2 goes to 7", x.fits(0b01110111, 1), 0b000010);
        is("near of 3 goes to 6", x.fits(0b00110111, 1), 0b000100);
        is("near of 6", x.fits(0b00000111, 1), 0b100000);
        is("nobody treads none", x.fits(0, 0), 0);
        is("a set with 9", x.fits(256, 0), UNKNOWN);
        is("below 0", x.fits(-1, 0), UNKNOWN);
        is("unknown comes first", x.fits(256, 2), UNKNOWN);
        is("what 2", x.fits(0, 2), OUTSIDE);
        is("what -1", x.fits(0, -1), OUTSIDE);
        for (int wrong : WRONG) {
            is("what " + wrong, x.fits(1, wrong), OUTSIDE);
        }
        x.step(0, 1);
        is("as if 1 were free", x.fits(0b00000111, 1), 0b100000);
        OldLadder y = Due.told("ladder 2");
        is("each", y.fits(0b11, 0), 0b000001);
        is("each, near", y.fits(0b11, 1), 0b000001);
        is("at once", y.fits(0, 0), 0b111100);
        is("near, too", y.fits(0, 1), 0b111100);
        is("far of 2", y.fits(0b10, 0), 0b10);
        is("near of 2", y.fits(0b01, 1), 0b10);
    }

    private static void make() {
        DUE.about("promise 25");
        OldLadder x = Due.told("ladder 3;gone 1;gone 2;far 1;near 2;told 6;middle 5;far 4;load 4 2;load 0 5");
        is("nobody", x.make(0, 20), 0);
        is("each foot", x.make(1, 20), 20);
        is("every other", x.make(2, 20), 10);
        is("6, 12, 18", x.make(4, 20), 3);
        is("5, 10, 15, 20", x.make(8, 20), 4);
        is("with a load", x.make(16, 20), 10);
        is("all", x.make(31, 20), 47);
        is("all in 5", x.make(31, 5), 5 + 2 + 0 + 1 + 2);
        is("all in 1", x.make(31, 1), 1);
        is("a set with 5", x.make(32, 1), UNKNOWN);
        is("below 0", x.make(-1, 1), UNKNOWN);
        is("unknown comes first", x.make(32, 0), UNKNOWN);
        is("h 0", x.make(0, 0), OUTSIDE);
        is("h 21", x.make(1, 21), OUTSIDE);
        for (int wrong : WRONG) {
            is("h " + wrong, x.make(0, wrong), OUTSIDE);
        }
        is("nothing changes", x.count(0), 3);
    }

    private static void count() {
        DUE.about("promise 26");
        OldLadder x = Due.told("ladder 20;gone 20;gone 1;near 6;far 5;told 4");
        Due.write(x, "gone");
        is("h", x.count(0), 20);
        is("climbers", x.count(1), 3);
        is("free", x.count(2), 0x7fffe);
        is("spent", x.count(3), 0);
        is("gone", x.count(4), 0x80001);
        is("at the top", x.count(5), 0);
        is("bytes", x.count(6), 4);
        is("what 7", x.count(7), OUTSIDE);
        is("what -1", x.count(-1), OUTSIDE);
        for (int wrong : WRONG) {
            is("what " + wrong, x.count(wrong), OUTSIDE);
        }
        x.climb(2);
        x.step(0, 3);
        int spent = 0b1001000100010001000 | 0b100;
        is("4 8 12 16 19, and 3", x.count(3), spent);
        is("free", x.count(2), 0x7fffe & ~spent);
        is("2 is up", x.count(5), 0b100);
        x.climb(1);
        is("1 is up", x.count(5), 0b110);
        x.lower(2);
        is("2 is up no more", x.count(5), 0b010);
    }
}
