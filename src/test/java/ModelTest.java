import java.util.ArrayList;
import java.util.Random;

/** Long runs of calls, drawn always alike, each answer held against that of Plain. */
public final class ModelTest {
    private static final int RUNS = 400;
    private static final int CALLS = 512;
    private static final String[] WORDS = {"ladder", "gone", "weak", "sound", "far", "near", "middle", "told", "load", "nobody"};
    private static final int[] ODD_NUMBERS = {Integer.MIN_VALUE, -3, -2, -1, 0, 1, 2, 7, 10, 21, 31, 32, 33, Integer.MAX_VALUE};

    private static final Due DUE = new Due();

    private final Random random;
    private final int highest;
    private OldLadder x;
    private Plain plain;
    private int calls;

    private ModelTest(long seed) {
        random = new Random(seed);
        // Low ladders can be tried in all ways; a few high ones, too.
        highest = seed % 4 == 3 ? 20 : 9;
    }

    public static void main(String[] args) {
        for (int seed = 0; seed < RUNS; seed++) {
            ModelTest test = new ModelTest(seed);
            DUE.about("run " + seed);
            test.run();
        }
        DUE.end("ModelTest");
    }

    private void run() {
        x = new OldLadder();
        plain = new Plain();
        while (calls < CALLS - 60) {
            int kind = random.nextInt(100);
            if (kind < 4) {
                tellText();
            } else if (kind < 6) {
                tellRubbish();
            } else {
                oneCall(random.nextInt(22));
            }
        }
    }

    private int upTo(int n) {
        return random.nextInt(n + 1);
    }

    private int number(int low, int high) {
        if (random.nextInt(12) == 0) {
            return ODD_NUMBERS[random.nextInt(ODD_NUMBERS.length)];
        }
        return low + random.nextInt(Math.max(1, high - low + 1));
    }

    private int men() {
        return (int) plain.count(1);
    }

    private int height() {
        return (int) plain.count(0);
    }

    private int man() {
        return number(0, men() - 1);
    }

    private int set(int size) {
        return random.nextInt(12) == 0 ? number(0, 1) : random.nextInt(1 << size);
    }

    private void is(String call, long got, long want) {
        calls++;
        if (want != Plain.NOT_TRIED) {
            DUE.is(call, got, want);
        }
    }

    private void write(String text) {
        for (int from = 0; from < text.length();) {
            int n = Math.min(1 + random.nextInt(8), text.length() - from);
            long bytes = 0;
            for (int i = 0; i < n; i++) {
                bytes |= (long) (text.charAt(from + i) & 255) << 8 * i;
            }
            bytes |= n < 8 ? random.nextLong() << 8 * n : 0;
            is("write " + bytes + " " + n, x.write(bytes, n), plain.write(bytes, n));
            from += n;
        }
    }

    private String line(int height, int men) {
        String word = WORDS[random.nextInt(WORDS.length)];
        String gap = " ".repeat(random.nextInt(3));
        String first = gap + (1 + random.nextInt(height));
        switch (word) {
            case "ladder":
                return word + gap + (1 + random.nextInt(highest));
            case "gone":
            case "sound":
                return word + first;
            case "weak":
                return word + first + " " + gap + upTo(10);
            case "load":
                return word + gap + upTo(Math.max(0, men - 1)) + " " + upTo(random.nextBoolean() ? 5 : 2);
            case "nobody":
                return random.nextInt(3) == 0 ? word : "sound 1";
            default:
                return word + gap + (1 + random.nextInt(6));
        }
    }

    private void tellText() {
        x.erase();
        plain.erase();
        ArrayList<String> lines = new ArrayList<>();
        int size = 1 + random.nextInt(random.nextInt(8) == 0 ? 13 : 9);
        for (int i = 0; i < size; i++) {
            lines.add(line(Math.max(1, height() - random.nextInt(2)), Math.min(5, men() + i / 2)));
        }
        if (random.nextInt(3) == 0) {
            lines.set(0, "ladder " + (highest - upTo(4)));
        }
        if (men() > 2 && random.nextInt(3) == 0) {
            lines.set(lines.size() - 1, "nobody");
        }
        String text = String.join(random.nextInt(4) == 0 ? " ; " : ";", lines);
        write(text);
        is("fault of " + text, x.fault(), plain.fault(new ArrayList<>()));
        is("ladder", x.ladder(), plain.ladder());
        look();
    }

    /** A text with one byte changed, taken out or put in. */
    private void tellRubbish() {
        if (random.nextInt(3) > 0) {
            is("erase", x.erase(), plain.erase());
        }
        StringBuilder text = new StringBuilder();
        for (int i = random.nextInt(4); i >= 0; i--) {
            text.append(line(height(), men())).append(i > 0 ? ";" : "");
        }
        String some = "abgz019 ;;  /:`{AZ" + (char) 0 + (char) 127 + (char) 200;
        char one = some.charAt(random.nextInt(some.length()));
        int place = random.nextInt(text.length());
        switch (random.nextInt(3)) {
            case 0: text.setCharAt(place, one); break;
            case 1: text.insert(place, one); break;
            default: text.deleteCharAt(place); break;
        }
        write(text.toString());
        is("fault of " + text, x.fault(), plain.fault(new ArrayList<>()));
    }

    private void look() {
        for (int what = -1; what <= 7; what++) {
            is("count " + what, x.count(what), plain.count(what));
        }
        int r = number(1, height());
        for (int what = 0; what < 4; what++) {
            is("rung " + r, x.rung(r, what), plain.rung(r, what));
        }
        int i = man();
        for (int what = 0; what < 5; what++) {
            is("climber " + i, x.climber(i, what), plain.climber(i, what));
        }
    }

    private void oneCall(int which) {
        int i = man();
        int set = set(men());
        int rungs = set(height());
        int r = number(1, 6);
        int what = number(0, 1);
        switch (which) {
            case 0: is("fault", x.fault(), plain.fault(new ArrayList<>())); break;
            case 1: look(); break;
            case 2: int kind = number(0, 4); is("as " + i + " " + kind, x.as(i, kind), plain.as(i, kind)); break;
            case 3: is("mind " + i + " " + rungs, x.mind(i, rungs), plain.mind(i, rungs)); break;
            case 4: int to = number(1, height() + 1); is("step " + i + " " + to, x.step(i, to), plain.step(i, to)); break;
            case 5: is("climb " + i, x.climb(i), plain.climb(i)); break;
            case 6: is("lower " + i, x.lower(i), plain.lower(i)); break;
            case 7: is("judge " + i + " " + rungs, x.judge(i, rungs), plain.judge(i, rungs)); break;
            case 8: is("keep " + what, x.keep(what), plain.keep(what)); break;
            case 9: case 10: is("back " + what, x.back(what), plain.back(what)); break;
            default: foretell(which, set, rungs, r, what); break;
        }
    }

    private void foretell(int which, int set, int rungs, int r, int what) {
        switch (which) {
            case 11: is("most " + r + " " + what, x.most(r, what), plain.most(r, what)); break;
            case 12: is("ways " + set, x.ways(set), plain.ways(set)); break;
            case 13: is("largest " + what, x.largest(what), plain.largest(what)); break;
            case 14: int n = number(-1, 5); is("order " + set + " " + n, x.order(set, n), plain.order(set, n)); break;
            case 15: is("mends " + set, x.mends(set), plain.mends(set)); break;
            case 16: int k = number(0, 9); is("spoilt " + r + " " + k, x.spoilt(r, k), plain.spoilt(r, k)); break;
            case 17:
                is("both " + r, x.both(r), plain.both(r));
                DUE.holds("stretches", r < 1 || r > 6 || plain.stretchesHold(r));
                break;
            case 18: is("odds " + r + " " + what, x.odds(r, what), plain.odds(r, what)); break;
            case 19: is("fits " + rungs + " " + what, x.fits(rungs, what), plain.fits(rungs, what)); break;
            case 20: fitsOfOne(r, what); break;
            default: int h = number(1, 20); is("make " + set + " " + h, x.make(set, h), plain.make(set, h)); break;
        }
    }

    /** A set of rungs that somebody treads, as drawn ones seldom are. */
    private void fitsOfOne(int r, int what) {
        int rungs = 0;
        for (int at = r; at <= height() && r > 0; at += r) {
            rungs |= plain.rung(at, 0) == 2 ? 0 : 1 << at - 1;
        }
        is("fits " + rungs + " " + what, x.fits(rungs, what), plain.fits(rungs, what));
    }
}
