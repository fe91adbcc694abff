/** What is told, sentence by sentence: each boundary that the document names for THE TEXT and promises 1 to 9. */
public final class TextEdgeTest {
    private static final int NONE = OldLadder.NONE;
    private static final int UNKNOWN = OldLadder.UNKNOWN;
    private static final int OUTSIDE = OldLadder.OUTSIDE;
    private static final int NOT = OldLadder.NOT;
    private static final int FULL = OldLadder.FULL;
    private static final long NOBODY = 0x79646f626f6eL;
    private static final String[] KINDS = {"far", "near", "middle", "told"};
    private static final String[] WORDS = {
        "ladder", "gone", "weak", "sound", "far", "near", "middle", "told", "load", "nobody"};
    private static final String FIVE = "far 1;near 2;middle 3;told 4;far 5";
    private static final Due DUE = new Due();

    public static void main(String[] args) {
        newObjects();
        writeTakesOneToEight();
        writeTakesEachByte();
        writeIsFull();
        erase();
        emptyText();
        oneToTwelveLines();
        fullText();
        wordsAsWritten();
        numbersInTheirBounds();
        numbersOfOneOrTwoDigits();
        everyByteAsToken();
        blanks();
        rungsSuchAsThereAre();
        climbersSuchAsThereAre();
        sixthClimber();
        firstFault();
        endTooSoon();
        ladderCounts();
        ladderRefused();
        linesInOrder();
        ladderLine();
        nobodyLine();
        earlierTextsStay();
        behindTheLines();
        tenths();
        strides();
        kindsOverOneAnother();
        asAtTheTop();
        mindsASet();
        DUE.end("TextEdgeTest");
    }

    private static void is(String call, long got, long want) {
        DUE.is(call, got, want);
    }

    private static void fault(String text, int want) {
        faultThen("", text, want);
    }

    /** The fault of a text that comes behind one that was done. */
    private static void faultThen(String done, String text, int want) {
        OldLadder x = done.isEmpty() ? new OldLadder() : Due.told(done);
        Due.write(x, text);
        String name = "'" + text + "' behind '" + done + "'";
        is("fault of " + name, x.fault(), want);
        is("and again", x.fault(), want);
        is("bytes of " + name, x.count(6), text.length());
        is("ladder of " + name, x.ladder() == NOT ? 1 : 0, want == NONE ? 0 : 1);
    }

    // ---- a new object, write, erase

    private static void newObjects() {
        DUE.about("promise 1: eight SOUND RUNGS, nobody");
        OldLadder x = new OldLadder();
        is("rung 8", x.rung(8, 0), 0);
        is("rung 9", x.rung(9, 0), UNKNOWN);
        is("rung 1", x.rung(1, 0), 0);
        is("rung 0", x.rung(0, 0), UNKNOWN);
        is("climber 0", x.climber(0, 0), UNKNOWN);
        is("erase", x.erase(), 0);
        is("fault", x.fault(), 0);
        is("a set of nobody", x.ways(0), 1);
        is("a set of one", x.ways(1), UNKNOWN);
        OldLadder y = Due.told("ladder 3;gone 2;far 2");
        y.step(0, 1);
        y.keep(0);
        is("objects have nothing in common", x.count(0), 8);
        is("nor rungs", x.count(2), 255);
        is("nor climbers", x.count(1), 0);
        is("nor what is kept", x.back(0), NOT);
        OldLadder z = new OldLadder();
        is("nor later ones", z.count(0), 8);
        is("nor their rungs", z.count(2), 255);
    }

    private static void writeTakesOneToEight() {
        DUE.about("promise 2: n (1 .. 8) bytes more");
        for (int n = 1; n <= 8; n++) {
            OldLadder x = new OldLadder();
            is("n " + n, x.write(0x2020202020202020L, n), n);
            is("twice " + n, x.write(0x2020202020202020L, n), 2 * n);
            is("count", x.count(6), 2 * n);
        }
        int[] wrong = {0, -1, 9, 10, 16, 200, 257, -8, Integer.MIN_VALUE, Integer.MIN_VALUE + 1, Integer.MAX_VALUE};
        for (int n : wrong) {
            OldLadder x = new OldLadder();
            is("n " + n, x.write(NOBODY, n), OUTSIDE);
            is("n " + n + " leaves none", x.count(6), 0);
            x.write(NOBODY, 6);
            is("n " + n + " again", x.write(NOBODY, n), OUTSIDE);
            is("n " + n + " leaves the text", x.fault(), NONE);
        }
        long[] rows = {Long.MIN_VALUE, Long.MAX_VALUE, -1, 0, 1};
        for (long row : rows) {
            OldLadder x = new OldLadder();
            is("bytes " + row, x.write(row, 1), 1);
            is("bytes " + row, x.write(row, 8), 9);
            is("bytes " + row + " with n 0", x.write(row, 0), OUTSIDE);
            is("bytes " + row + " with n 9", x.write(row, 9), OUTSIDE);
            is("none of them can stand", x.fault(), 0);
        }
    }

    private static void writeTakesEachByte() {
        DUE.about("promise 2: byte i being bytes >> 8 i & 255");
        long blanks = 0x2020202020202020L;
        for (int i = 0; i < 8; i++) {
            // A digit 1 at place i, which cannot stand there, and else blanks.
            long row = blanks ^ 0x20L << 8 * i ^ 0x31L << 8 * i;
            for (int n = 1; n <= 8; n++) {
                OldLadder x = new OldLadder();
                x.write(row, n);
                is("a digit at " + i + " of " + n, x.fault(), i < n ? i : n);
            }
            OldLadder y = new OldLadder();
            y.write(NOBODY, 6);
            y.write(blanks ^ 0x20L << 8 * i ^ 0xe1L << 8 * i, 8);
            is("a byte of 225 at " + i, y.fault(), 6 + i);
        }
        OldLadder z = new OldLadder();
        z.write(0xff79646f626f6eL | Long.MIN_VALUE, 6);
        is("bytes above n are left", z.fault(), NONE);
        z.write(';', 1);
        z.write(NOBODY, 6);
        is("the next come behind", z.fault(), NONE);
        is("two lines", z.ladder(), 2);
    }

    /** An object whose text has so many bytes, nobody and blanks. */
    private static OldLadder withBytes(int bytes) {
        OldLadder x = new OldLadder();
        Due.write(x, "nobody" + " ".repeat(bytes - 6));
        return x;
    }

    private static void writeIsFull() {
        DUE.about("promise 2: 200 at most; OUTSIDE; FULL");
        for (int n = 1; n <= 8; n++) {
            is("200 with " + n, withBytes(200 - n).write(0x2020202020202020L, n), 200);
            OldLadder x = withBytes(201 - n);
            is("201 with " + n, x.write(-1, n), FULL);
            is("still", x.count(6), 201 - n);
            is("not a part of it", x.fault(), NONE);
            is("one less", n == 1 ? 200 : x.write(0x2020202020202020L, n - 1), 200);
            is("200 and " + n, x.write(-1, n), FULL);
            is("still", x.count(6), 200);
            is("not a part of it", x.fault(), NONE);
        }
        int[] wrong = {0, -1, 9, Integer.MIN_VALUE, Integer.MAX_VALUE};
        for (int n : wrong) {
            is("OUTSIDE is ahead of FULL, n " + n, withBytes(200).write(0, n), OUTSIDE);
            is("OUTSIDE is ahead of FULL, n " + n, withBytes(196).write(0, n), OUTSIDE);
        }
        OldLadder y = withBytes(200);
        y.erase();
        is("room again", y.write(NOBODY, 6), 6);
        OldLadder z = withBytes(200);
        z.ladder();
        is("room again", z.write(NOBODY, 6), 6);
    }

    private static void erase() {
        DUE.about("promise 3: THE TEXT is empty: how many bytes it had");
        is("none", new OldLadder().erase(), 0);
        OldLadder x = new OldLadder();
        x.write(NOBODY, 1);
        is("one", x.erase(), 1);
        is("none now", x.erase(), 0);
        OldLadder y = withBytes(200);
        is("200", y.erase(), 200);
        is("none now", y.count(6), 0);
        is("fault of none", y.fault(), 0);
        OldLadder z = Due.told("ladder 5;far 3;gone 1");
        Due.write(z, "nobody;ladder 9");
        is("what was not done", z.erase(), 15);
        is("is not done", z.ladder(), NOT);
        is("the ladder stays", z.count(0), 5);
        is("he stays", z.count(1), 1);
        is("rungs stay", z.count(4), 1);
        OldLadder w = Due.told("nobody");
        is("none behind ladder", w.erase(), 0);
    }

    // ---- the fault

    private static void emptyText() {
        DUE.about("THE TEXT: an empty TEXT ends too soon");
        fault("", 0);
        fault(" ", 1);
        fault(" ".repeat(199), 199);
        fault(" ".repeat(200), 200);
    }

    private static String lines(int n, String line) {
        return (line + ";").repeat(n - 1) + line;
    }

    private static void oneToTwelveLines() {
        DUE.about("THE TEXT: LINES with ; (59) between, 1 to 12; behind the 12th no ; can stand");
        for (int n = 1; n <= 12; n++) {
            String text = lines(n, "nobody");
            fault(text, NONE);
            fault(text + ";", n == 12 ? text.length() : text.length() + 1);
            fault(text + " ;", text.length() + (n == 12 ? 1 : 2));
            fault(";" + text, 0);
            fault(text + ";;", text.length() + (n == 12 ? 0 : 1));
            fault(text + ":", text.length());
            fault(text + "<", text.length());
        }
        fault(lines(13, "nobody"), lines(12, "nobody").length());
        fault(lines(14, "sound 1"), lines(12, "sound 1").length());
        fault(lines(12, "nobody") + "   ", NONE);
        fault(lines(12, "weak 1 10"), NONE);
        fault(lines(11, "nobody") + ";nobodyy;", 77);
        fault(lines(12, "nobody") + "x", 77);
        fault(lines(12, "nobody") + " x", 84);
    }

    private static void fullText() {
        DUE.about("THE TEXT: a row of bytes, 200 at most");
        fault("nobody" + " ".repeat(194), NONE);
        fault(" ".repeat(194) + "nobody", NONE);
        fault(" ".repeat(195) + "nobod", 195);
        fault(" ".repeat(194) + "nobodx", 194);
        fault("nobody" + " ".repeat(193) + ";", 200);
        fault("nobody" + " ".repeat(193) + "x", 199);
        fault("nobody" + " ".repeat(193) + "1", 199);
        fault("weak 8" + " ".repeat(193) + "1", NONE);
        fault("weak 8" + " ".repeat(192) + "10", NONE);
        fault("weak 8" + " ".repeat(192) + "11", 198);
        fault("a".repeat(200), 0);
        fault("1".repeat(200), 0);
        fault("far " + "1".repeat(196), 4);
        fault(";".repeat(200), 0);
        String twelve = lines(12, "   sound 8   ");
        fault(twelve + " ".repeat(200 - twelve.length()), NONE);
        fault(twelve + " ".repeat(199 - twelve.length()) + ";", 199);
    }

    private static String numbersOf(String word) {
        switch (word) {
            case "nobody":
                return "";
            case "weak":
                return " 1 1";
            case "load":
                return " 0 1";
            default:
                return " 1";
        }
    }

    private static void wordsAsWritten() {
        DUE.about("THE TEXT: each is one of: ladder H .. nobody, as written here");
        for (String word : WORDS) {
            String numbers = numbersOf(word);
            String one = "near 3";
            faultThen(one, word + numbers, NONE);
            faultThen(one, word.substring(1) + numbers, 0);
            faultThen(one, word.substring(0, word.length() - 1) + numbers, 0);
            faultThen(one, "a" + word + numbers, 0);
            faultThen(one, word + "s" + numbers, 0);
            faultThen(one, word + word + numbers, 0);
            faultThen(one, word.toUpperCase() + numbers, 0);
            faultThen(one, Character.toUpperCase(word.charAt(0)) + word.substring(1) + numbers, 0);
            faultThen(one, word.substring(0, 2) + " " + word.substring(2) + numbers, 0);
            faultThen(one, word + "." + numbers, word.length());
            faultThen(one, word + numbers + ".", word.length() + numbers.length());
            for (int i = 0; i < word.length(); i++) {
                String other = word.substring(0, i) + (word.charAt(i) == 'z' ? 'y' : 'z') + word.substring(i + 1);
                faultThen(one, other + numbers, 0);
                String split = word.substring(0, i) + "_" + word.substring(i + 1);
                faultThen(one, split + numbers, 0);
            }
            for (String other : WORDS) {
                faultThen(one, word + " " + other, word.length() + 1);
            }
        }
    }

    /** Of a number that comes behind those words: the least and the greatest that stand, the one below and above. */
    private static void bounds(String done, String ahead, String behind, int least, int greatest) {
        for (int number = 0; number <= 120; number++) {
            boolean stands = number >= least && number <= greatest;
            faultThen(done, ahead + number + behind, stands ? NONE : ahead.length());
        }
        faultThen(done, ahead + "-1" + behind, ahead.length());
        faultThen(done, ahead + "+1" + behind, ahead.length());
    }

    private static void numbersInTheirBounds() {
        DUE.about("THE TEXT: a number out of its bounds");
        bounds("", "ladder ", "", 1, 20);
        for (String kind : KINDS) {
            bounds("", kind + " ", "", 1, 6);
        }
        int[] heights = {1, 2, 9, 10, 19, 20};
        for (int h : heights) {
            bounds("ladder " + h, "gone ", "", 1, h);
            bounds("ladder " + h, "sound ", "", 1, h);
            bounds("ladder " + h, "weak ", " 5", 1, h);
            bounds("ladder " + h, "weak " + h + " ", "", 0, 10);
        }
        bounds("far 6", "load 0 ", "", 0, 5);
        bounds("far 6", "load ", " 5", 0, 0);
        bounds(FIVE, "load ", " 0", 0, 4);
        bounds(FIVE, "load 4 ", "", 0, 5);
    }

    private static void numbersOfOneOrTwoDigits() {
        DUE.about("THE TEXT: numbers of 1 or 2 digits; of more digits, also");
        fault("ladder 01", NONE);
        fault("ladder 001", 7);
        fault("ladder 0020", 7);
        fault("ladder 200", 7);
        fault("ladder 00", 7);
        fault("ladder 000", 7);
        fault("far 01", NONE);
        fault("far 06", NONE);
        fault("far 006", 4);
        fault("far 00", 4);
        fault("gone 08", NONE);
        fault("gone 008", 5);
        fault("weak 01 00", NONE);
        fault("weak 01 000", 8);
        fault("weak 001 00", 5);
        fault("weak 1 010", 7);
        fault("far 1;load 00 00", NONE);
        fault("far 1;load 000 0", 11);
        fault("far 1;load 0 000", 13);
        // Numbers that wrap around to one that could stand.
        fault("far 4294967297", 4);
        fault("far 18446744073709551617", 4);
        fault("ladder 257", 7);
        fault("ladder 65537", 7);
        fault("ladder 2147483648", 7);
    }

    private static void everyByteAsToken() {
        DUE.about("THE TEXT: a row of small letters, a row of digits, any other byte");
        for (int b = 0; b <= 255; b++) {
            char c = (char) b;
            boolean letter = c >= 'a' && c <= 'z';
            boolean digit = c >= '0' && c <= '9';
            boolean blank = b == 32;
            fault(c + "nobody", blank ? NONE : 0);
            fault("nobody" + c, letter ? 0 : blank ? NONE : b == 59 ? 7 : 6);
            fault("nobody " + c, blank ? NONE : b == 59 ? 8 : 7);
            fault("nobo" + c + "dy", 0);
            fault("far" + c + "3", letter ? 0 : blank || c == '0' ? NONE : 3);
            fault("far3" + c, digit ? 3 : blank ? NONE : b == 59 ? 5 : 4);
            fault("weak1" + c + "1", digit ? 4 : blank ? NONE : 5);
            fault("" + c, blank ? 1 : 0);
            fault("nobody" + c + "nobody", letter ? 0 : blank ? 7 : b == 59 ? NONE : 6);
        }
    }

    private static void blanks() {
        DUE.about("THE TEXT: blanks may stand ahead of, between and behind TOKENS, none is needed but between two words, two numbers");
        fault("far1;near2;middle3;told4;load3 1;weak8 10;gone1;sound2;ladder7;nobody", NONE);
        fault("  far  1  ;  weak  8  10  ;  nobody  ", NONE);
        fault("far 1;load00", 12);
        fault("far1;load0 0", NONE);
        faultThen("ladder 20", "weak110", 4);
        faultThen("ladder 20", "weak11", 6);
        faultThen("ladder 20", "weak11 0", NONE);
        faultThen("ladder 20", "weak1 10", NONE);
        fault("nobodynobody", 0);
        fault("farnear", 0);
        fault("1far", 0);
        fault("far 1 near 1", 6);
        fault("far 1near 1", 5);
        fault("far 1 1", 6);
        fault("ladder 1 0", 9);
        fault("la dder 1", 0);
        fault("nobody\n", 6);
        fault("far\t1", 3);
    }

    private static void rungsSuchAsThereAre() {
        DUE.about("THE TEXT: R a RUNG such as there are behind the LINES ahead");
        fault("gone 8", NONE);
        fault("gone 9", 5);
        fault("ladder 9;gone 9", NONE);
        fault("ladder 9;gone 10", 14);
        fault("ladder 7;gone 8", 14);
        fault("gone 8;ladder 7", NONE);
        fault("gone 9;ladder 9", 5);
        fault("ladder 1;gone 1", NONE);
        fault("ladder 1;gone 2", 14);
        fault("ladder 20;gone 20", NONE);
        fault("ladder 20;gone 21", 15);
        fault("ladder 20;ladder 1;weak 2 1", 24);
        fault("ladder 1;ladder 20;weak 20 1", NONE);
        fault("gone 8;gone 8;sound 8;weak 8 0;weak 8 10", NONE);
        faultThen("ladder 3;gone 3", "sound 3;sound 4", 14);
        faultThen("ladder 12", "gone 12", NONE);
        faultThen("ladder 12;ladder 2", "gone 3", 5);
        OldLadder x = new OldLadder();
        Due.write(x, "ladder 12;gone 13");
        is("a fault", x.ladder(), NOT);
        x.erase();
        Due.write(x, "gone 12");
        is("a text with a fault told nothing", x.fault(), 5);
        x.erase();
        Due.write(x, "ladder 12");
        is("no fault", x.fault(), NONE);
        x.erase();
        Due.write(x, "gone 12");
        is("a text that was not done told nothing", x.fault(), 5);
    }

    private static void climbersSuchAsThereAre() {
        DUE.about("THE TEXT: I a CLIMBER such as there are behind the LINES ahead");
        fault("load 0 0", 5);
        fault("load 0 0;far 1", 5);
        fault("far 1;load 0 0", NONE);
        fault("far 1;load 1 0", 11);
        fault("far 1;nobody;load 0 0", 18);
        fault("nobody;far 1;load 0 0", NONE);
        fault(FIVE + ";load 4 5", NONE);
        fault(FIVE + ";load 5 5", FIVE.length() + 6);
        fault(FIVE + ";nobody;told 1;load 0 1;load 1 1", FIVE.length() + 29);
        faultThen("far 1;near 1", "load 1 3", NONE);
        faultThen("far 1;near 1", "load 2 3", 5);
        faultThen("far 1;near 1", "told 1;load 2 3", NONE);
        faultThen("far 1;near 1;nobody", "load 0 3", 5);
    }

    private static void sixthClimber() {
        DUE.about("THE TEXT: a sixth cannot stand there (at its word)");
        for (String kind : KINDS) {
            fault(FIVE + ";" + kind + " 1", FIVE.length() + 1);
            fault(FIVE + ";" + kind, FIVE.length() + 1);
            fault(FIVE + ";" + kind + " 7", FIVE.length() + 1);
            fault(FIVE + "; " + kind + " 1", FIVE.length() + 2);
            fault(FIVE + ";nobody;" + kind + " 1", NONE);
            faultThen(FIVE, kind + " 1", 0);
            faultThen(FIVE, "sound 1;" + kind + " 1", 8);
            faultThen(FIVE, "nobody;" + kind + " 1", NONE);
            faultThen("far 1;far 1;far 1;far 1", kind + " 1", NONE);
            faultThen("far 1;far 1;far 1;far 1", kind + " 1;far 1", kind.length() + 3);
        }
        fault(FIVE + ";nobody;" + FIVE, NONE);
        fault(FIVE + ";nobody;" + FIVE + ";far 1", 2 * FIVE.length() + 9);
        faultThen(FIVE, "nobody;" + FIVE, NONE);
        faultThen(FIVE, "nobody;" + FIVE + ";far 1", FIVE.length() + 8);
    }

    private static void firstFault() {
        DUE.about("a FAULT is at the first TOKEN that cannot stand there");
        fault("far 7;near 8", 4);
        fault("far 1;near 8;x", 11);
        fault("x y z", 0);
        fault("weak 9 11", 5);
        fault("weak 8 11 12", 7);
        fault("far far", 4);
        fault("far;", 3);
        fault("weak 1;2", 6);
        fault("ladder;3", 6);
        fault("nobody 1;far", 7);
    }

    private static void endTooSoon() {
        DUE.about("a FAULT is at the end, if it comes too soon: the length");
        for (String word : WORDS) {
            if (!word.equals("nobody")) {
                faultThen("far 1", word, word.length());
                faultThen("far 1", word + "   ", word.length() + 3);
                faultThen("far 1", "nobody;far 1;" + word, 13 + word.length());
            }
        }
        faultThen("far 1", "weak 1", 6);
        faultThen("far 1", "weak 1 ", 7);
        faultThen("far 1", "load 0", 6);
        faultThen("far 1", "load 0 ", 7);
        faultThen("far 1", "nobody; ", 8);
        OldLadder x = new OldLadder();
        Due.write(x, "weak");
        is("so far", x.fault(), 4);
        Due.write(x, " 8");
        is("so far", x.fault(), 6);
        Due.write(x, " 1");
        is("it can stand", x.fault(), NONE);
        Due.write(x, "0");
        is("it can stand", x.fault(), NONE);
        Due.write(x, "0");
        is("of three digits", x.fault(), 7);
    }

    // ---- the lines are done

    private static void ladderCounts() {
        DUE.about("promise 5: how many there were, and it is empty then");
        for (int n = 1; n <= 12; n++) {
            OldLadder x = new OldLadder();
            Due.write(x, lines(n, "sound 8"));
            is("lines", x.ladder(), n);
            is("it is empty", x.count(6), 0);
            is("it has a fault then", x.fault(), 0);
            is("no lines", x.ladder(), NOT);
        }
        OldLadder first = done("gone 8;" + lines(11, "sound 1"));
        is("the first of 12 is done", first.count(4), 128);
        OldLadder last = done(lines(11, "sound 1") + ";gone 8");
        is("the last of 12 is done", last.count(4), 128);
        OldLadder y = withBytes(200);
        is("of 200 bytes", y.ladder(), 1);
        is("it is empty", y.count(6), 0);
    }

    private static void ladderRefused() {
        DUE.about("promise 5: NOT: it has a FAULT; nothing changes");
        String[] texts = {
            "", " ", "gone", "ladder 5;far 1;gone 6", "nobody;ladder 2;", "far 3;load 3 1", "nobody;gone 8;sound 8;x",
            "weak 1 0;weak 2 0;weak 3 11", lines(12, "gone 1") + ";", FIVE};
        for (String text : texts) {
            Scene scene = new Scene("ladder 7;weak 3 4;gone 5;told 3;near 2", x -> {
                x.mind(0, 0b110);
                x.step(1, 1);
                x.keep(1);
                x.climb(0);
                return Due.write(x, text);
            });
            is("ladder of '" + text + "'", scene.answer(x -> x.ladder()), NOT);
            DUE.holds("nothing changes by '" + text + "'", scene.isLeft(x -> x.ladder()));
            DUE.holds("nothing changes by fault of '" + text + "'", scene.isLeft(x -> x.fault()));
        }
    }

    private static OldLadder done(String text) {
        return Due.told(text);
    }

    private static void linesInOrder() {
        DUE.about("THE TEXT: LINES are done in their order");
        is("gone, then weak", done("gone 3;weak 3 4").rung(3, 0), 1);
        is("weak, then gone", done("weak 3 4;gone 3").rung(3, 0), 2);
        is("gone, then sound", done("gone 3;sound 3").rung(3, 0), 0);
        is("sound, then gone", done("sound 3;gone 3").rung(3, 0), 2);
        is("weak, then sound", done("weak 3 4;sound 3").rung(3, 0), 0);
        is("weak, then sound: tenths", done("weak 3 4;sound 3").rung(3, 1), 10);
        is("weak twice", done("weak 3 4;weak 3 6").rung(3, 1), 6);
        is("gone, weak, gone", done("gone 3;weak 3 4;gone 3").rung(3, 1), 0);
        is("gone, then a ladder", done("gone 3;ladder 8").count(4), 0);
        is("a ladder, then gone", done("ladder 8;gone 3").count(4), 4);
        is("two ladders", done("ladder 3;ladder 12").count(0), 12);
        is("load twice", done("far 6;load 0 5;load 0 2").climber(0, 2), 2);
        is("far, then nobody", done("far 6;nobody").count(1), 0);
        is("nobody, then far", done("nobody;far 6").count(1), 1);
        OldLadder x = done("told 1;middle 2;near 3;far 4");
        for (int i = 0; i < 4; i++) {
            is("as they come", x.climber(i, 0), 3 - i);
            is("with this reach", x.climber(i, 1), i + 1);
        }
    }

    private static void ladderLine() {
        DUE.about("THE TEXT: ladder: RUNGS 1 .. H, all SOUND, CLIMBERS stay");
        for (int h = 1; h <= 20; h++) {
            OldLadder x = done("gone 1;weak 2 3;gone 8;far 5;near 4;load 1 2;ladder " + h);
            is("h", x.count(0), h);
            is("all free", x.count(2), (1 << h) - 1);
            is("none gone", x.count(4), 0);
            is("the highest", x.rung(h, 0), 0);
            is("its tenths", x.rung(h, 1), 10);
            is("no more", x.rung(h + 1, 0), UNKNOWN);
            is("2 is as all", x.rung(2, 1), h >= 2 ? 10 : UNKNOWN);
            is("climbers stay", x.count(1), 2);
            is("his load stays", x.climber(1, 2), 2);
        }
        OldLadder y = done("ladder 20;gone 20;weak 19 3;ladder 5");
        Due.write(y, "ladder 20");
        y.ladder();
        is("20 is as at first", y.rung(20, 0), 0);
        is("19, too", y.rung(19, 1), 10);
        is("none is gone", y.count(4), 0);
    }

    private static void nobodyLine() {
        DUE.about("THE TEXT: nobody: no CLIMBERS");
        OldLadder x = done("gone 2;far 4;load 0 3;nobody");
        is("none", x.count(1), 0);
        is("rungs stay", x.count(4), 2);
        is("not he", x.climber(0, 0), UNKNOWN);
        OldLadder y = done("far 4;load 0 3;nobody;near 5");
        is("0 at first", y.climber(0, 2), 0);
        is("another one", y.climber(0, 0), 1);
        is("of his own reach", y.climber(0, 1), 5);
        OldLadder z = done(FIVE);
        z.mind(3, 7);
        Due.write(z, "nobody;" + FIVE);
        z.ladder();
        is("five again", z.count(1), 5);
        is("he minds none", z.mind(3, 0), 0);
    }

    private static void earlierTextsStay() {
        DUE.about("THE TEXT: what earlier texts told stays");
        OldLadder x = done("ladder 9;gone 9;weak 8 0;far 6;load 0 5");
        Due.write(x, "near 2");
        x.ladder();
        is("h", x.count(0), 9);
        is("gone", x.count(4), 256);
        is("weak", x.rung(8, 1), 0);
        is("two", x.count(1), 2);
        is("load", x.climber(0, 2), 5);
        is("stride", x.climber(0, 3), 1);
        is("near", x.climber(1, 0), 1);
    }

    private static void behindTheLines() {
        DUE.about("THE TEXT: behind them nobody has been up, all RUNGS that are not GONE are FREE ..");
        String[] texts = {"sound 8", "load 0 0", "gone 8", "sound 1;sound 1"};
        for (String text : texts) {
            OldLadder x = done("ladder 8;told 5;far 5;near 1;gone 8");
            x.mind(0, 0b10);
            x.climb(0);
            x.step(1, 3);
            x.step(2, 1);
            x.keep(0);
            x.keep(1);
            is("one is up", x.count(5), 1);
            Due.write(x, text);
            x.ladder();
            is("nobody is up", x.count(5), 0);
            is("0 is on the ground", x.climber(0, 4), 0);
            is("1 is on the ground", x.climber(1, 4), 0);
            is("none is spent", x.count(3), 0);
            is("all others are free", x.count(2), text.equals("sound 8") ? 255 : 127);
            is("nobody stepped on 3", x.rung(3, 3), NONE);
            is("nothing is kept", x.back(0), NOT);
            is("nothing is kept", x.back(1), NOT);
            is("he minds none", x.mind(0, 0), 0);
        }
    }

    // ---- rung, climber, as, mind

    private static void tenths() {
        DUE.about("promise 6: SOUND, WEAK (0 .. 10 tenths), GONE; its tenths (10 SOUND, 0 GONE)");
        for (int p = 0; p <= 10; p++) {
            OldLadder x = done("ladder 20;weak 20 " + p + ";weak 1 " + (10 - p));
            is("weak", x.rung(20, 0), 1);
            is("its tenths", x.rung(20, 1), p);
            is("free", x.rung(20, 2), 1);
            is("nobody", x.rung(20, 3), NONE);
            is("weak", x.rung(1, 0), 1);
            is("its tenths", x.rung(1, 1), 10 - p);
            is("sound", x.rung(2, 1), 10);
        }
        OldLadder x = done("ladder 1;gone 1");
        is("gone", x.rung(1, 0), 2);
        is("its tenths", x.rung(1, 1), 0);
        is("not free", x.rung(1, 2), 0);
        is("nobody", x.rung(1, 3), NONE);
        is("the ground is none", x.rung(0, 2), UNKNOWN);
        is("the top is none", x.rung(2, 2), UNKNOWN);
        is("UNKNOWN is ahead of OUTSIDE", x.rung(2, 4), UNKNOWN);
        is("UNKNOWN is ahead of OUTSIDE", x.rung(0, -1), UNKNOWN);
        is("OUTSIDE", x.rung(1, 4), OUTSIDE);
        is("OUTSIDE", x.rung(1, -1), OUTSIDE);
        OldLadder y = done("ladder 2;far 1;near 1;told 1;far 2;near 2");
        y.step(4, 2);
        is("the fifth", y.rung(2, 3), 4);
        is("not free", y.rung(2, 2), 0);
        y.step(0, 1);
        is("the first", y.rung(1, 3), 0);
    }

    private static void strides() {
        DUE.about("promise 7: STRIDE is REACH less LOAD, 1 at least");
        for (int reach = 1; reach <= 6; reach++) {
            for (int load = 0; load <= 5; load++) {
                OldLadder x = done("ladder 20;middle " + reach + ";load 0 " + load);
                is("reach", x.climber(0, 1), reach);
                is("load", x.climber(0, 2), load);
                int stride = Math.max(1, reach - load);
                is("stride", x.climber(0, 3), stride);
                is("one too far", x.step(0, stride + 1), NOT);
                is("as far as he can", x.step(0, stride), stride);
                is("where he is", x.climber(0, 4), stride);
            }
        }
        OldLadder y = done("ladder 1;" + FIVE);
        is("the fifth", y.climber(4, 1), 5);
        is("no sixth", y.climber(5, 1), UNKNOWN);
        is("none below", y.climber(-1, 1), UNKNOWN);
        is("no load at first", y.climber(4, 2), 0);
        is("UNKNOWN is ahead of OUTSIDE", y.climber(5, 5), UNKNOWN);
        is("OUTSIDE", y.climber(4, 5), OUTSIDE);
        is("OUTSIDE", y.climber(0, -1), OUTSIDE);
        y.step(4, 2);
        is("h and 1 the TOP", y.climber(4, 4), 2);
        is("0 the ground", y.climber(3, 4), 0);
    }

    private static void kindsOverOneAnother() {
        DUE.about("promise 8: taken as a KIND; he answers as what he is; NOT: he is none such");
        String text = "ladder 20;far 5;near 5;middle 5;told 5";
        int[] aims = {5, 1, 3, 2};
        boolean[][] such = {
            {true, true, false, false, false}, {true, false, true, false, false},
            {true, false, true, true, false}, {true, true, false, false, true}};
        for (int i = 0; i < 4; i++) {
            OldLadder x = done(text);
            x.mind(3, 0b10);
            for (int kind = 0; kind <= 4; kind++) {
                is("climber " + i + " as " + kind, x.as(i, kind), such[i][kind] ? aims[i] : NOT);
            }
            is("below", x.as(i, -1), OUTSIDE);
            is("above", x.as(i, 5), OUTSIDE);
            is("nothing changes", x.climber(i, 4), 0);
            is("nothing is spent", x.count(3), 0);
        }
        OldLadder y = done(text);
        is("UNKNOWN is ahead of OUTSIDE", y.as(4, 5), UNKNOWN);
        is("UNKNOWN is ahead of OUTSIDE", y.as(-1, -1), UNKNOWN);
        is("OUTSIDE is ahead of NOT", y.as(0, 5), OUTSIDE);
    }

    private static void asAtTheTop() {
        DUE.about("promise 8: to which RUNG, or the TOP, he would step now; NONE; NOT: he is at the TOP");
        for (String kind : KINDS) {
            OldLadder x = done("ladder 6;gone 1;gone 2;gone 5;gone 6;" + kind + " 3;" + kind + " 2");
            is("the only one", x.as(0, 0), 3);
            is("none in his stride", x.as(1, 0), NONE);
            x.step(0, 3);
            is("the one that is left", x.as(0, 0), 4);
            x.step(0, 4);
            is("the top just in his stride", x.as(0, 0), 7);
            x.step(0, 7);
            is("at the top", x.as(0, 0), NOT);
            is("OUTSIDE is ahead of NOT", x.as(0, 5), OUTSIDE);
            x.lower(0);
            is("all are spent", x.as(0, 0), NONE);
        }
        OldLadder y = done("ladder 3;told 4;near 4;middle 3");
        y.mind(0, 0b010);
        is("the top is ahead of what he minds", y.as(0, 0), 4);
        is("and of the lowest", y.as(1, 0), 4);
        is("the middle of three", y.as(2, 0), 2);
        y.step(1, 2);
        is("of two the lower", y.as(2, 0), 1);
        y.lower(1);
        y.step(1, 1);
        is("of one that one", y.as(2, 0), 3);
    }

    private static void mindsASet() {
        DUE.about("promise 9: RUNGS (a set): those that he minded; UNKNOWN (a CLIMBER; the set); NOT: he is not TOLD");
        for (int h = 1; h <= 20; h++) {
            OldLadder x = done("ladder " + h + ";gone " + h + ";told 1;far 1");
            int all = (1 << h) - 1;
            is("all of them", x.mind(0, all), 0);
            is("one above", x.mind(0, all + 1), UNKNOWN);
            is("one above, and all", x.mind(0, all | all + 1), UNKNOWN);
            is("none", x.mind(0, 0), all);
            is("the highest", x.mind(0, 1 << h - 1), 0);
            is("again", x.mind(0, 1 << h - 1), 1 << h - 1);
            is("not told", x.mind(1, all), NOT);
            is("UNKNOWN is ahead of NOT", x.mind(1, all + 1), UNKNOWN);
            is("no such climber", x.mind(2, 0), UNKNOWN);
        }
        int[] wrong = {-1, Integer.MIN_VALUE, Integer.MAX_VALUE, 1 << 20, 1 << 30, Integer.MIN_VALUE + 1};
        for (int set : wrong) {
            OldLadder x = done("ladder 20;told 1;far 1");
            x.mind(0, 5);
            is("set " + set, x.mind(0, set), UNKNOWN);
            is("set " + set + " for another", x.mind(1, set), UNKNOWN);
            is("he minds the same", x.mind(0, 0), 5);
        }
        OldLadder y = done("ladder 6;gone 2;told 3");
        y.mind(0, 0b011010);
        is("of those that he minds 2 is gone, 4 too far", y.as(0, 4), 3);
        y.step(0, 3);
        is("the highest", y.as(0, 4), 5);
        y.lower(0);
        y.step(0, 1);
        is("the only one in his stride", y.as(0, 4), 4);
    }
}
