import java.math.BigInteger;
import java.util.ArrayList;
import java.util.Arrays;
import java.util.HashMap;
import java.util.List;
import java.util.Map;
import java.util.TreeMap;
import java.util.regex.Matcher;
import java.util.regex.Pattern;

/** The document once more, told by its words with lists, maps and trials, so that both can be held against each other. */
final class Plain {
    /** An answer that would take too long to find by trials. */
    static final long NOT_TRIED = Long.MIN_VALUE;

    static final int NONE = -1, UNKNOWN = -2, OUTSIDE = -3, NOT = -4, FULL = -5;
    private static final Pattern TOKEN = Pattern.compile("[a-z]+|[0-9]+|[^ ]", Pattern.DOTALL);
    private static final List<String> KINDS = List.of("far", "near", "middle", "told");

    static final class Man implements Cloneable {
        String kind;
        int reach;
        int load;
        int at;
        int minds;

        int stride() {
            return reach - load < 1 ? 1 : reach - load;
        }
    }

    private String text = "";
    private int h = 8;
    private final Map<Integer, Integer> weak = new TreeMap<>();
    private final List<Integer> gone = new ArrayList<>();
    private final Map<Integer, Integer> spent = new TreeMap<>();
    private final List<Man> men = new ArrayList<>();
    private final List<Map<Integer, Integer>> keptSpent = new ArrayList<>(Arrays.asList(null, null));
    private final List<List<Integer>> keptAt = new ArrayList<>(Arrays.asList(null, null));

    // ---- what is told

    long write(long bytes, int n) {
        if (n < 1 || n > 8) {
            return OUTSIDE;
        }
        if (text.length() + n > 200) {
            return FULL;
        }
        for (int i = 0; i < n; i++) {
            text += (char) (bytes >>> 8 * i & 255);
        }
        return text.length();
    }

    long erase() {
        int had = text.length();
        text = "";
        return had;
    }

    /** Reads the text as from a list of tokens, for each of which it is told what can stand there. */
    long fault(List<String[]> lines) {
        Matcher m = TOKEN.matcher(text);
        int high = h;
        int people = men.size();
        for (int line = 1;; line++) {
            if (!m.find()) {
                return text.length();
            }
            String word = m.group();
            int[][] bounds;
            switch (word) {
                case "ladder": bounds = new int[][] {{1, 20}}; break;
                case "gone": case "sound": bounds = new int[][] {{1, high}}; break;
                case "weak": bounds = new int[][] {{1, high}, {0, 10}}; break;
                case "load": bounds = new int[][] {{0, people - 1}, {0, 5}}; break;
                case "nobody": bounds = new int[][] {}; break;
                default:
                    if (!KINDS.contains(word) || people == 5) {
                        return m.start();
                    }
                    bounds = new int[][] {{1, 6}};
            }
            String[] told = {word, "", ""};
            for (int i = 0; i < bounds.length; i++) {
                if (!m.find()) {
                    return text.length();
                }
                told[i + 1] = m.group();
                if (!told[i + 1].matches("[0-9]{1,2}")) {
                    return m.start();
                }
                int number = Integer.parseInt(told[i + 1]);
                if (number < bounds[i][0] || number > bounds[i][1]) {
                    return m.start();
                }
            }
            if (word.equals("ladder")) {
                high = Integer.parseInt(told[1]);
            }
            people = word.equals("nobody") ? 0 : KINDS.contains(word) ? people + 1 : people;
            lines.add(told);
            if (!m.find()) {
                return NONE;
            }
            if (!m.group().equals(";") || line == 12) {
                return m.start();
            }
        }
    }

    long ladder() {
        List<String[]> lines = new ArrayList<>();
        if (fault(lines) != NONE) {
            return NOT;
        }
        for (String[] line : lines) {
            int first = line[1].isEmpty() ? 0 : Integer.parseInt(line[1]);
            int second = line[2].isEmpty() ? 0 : Integer.parseInt(line[2]);
            tell(line[0], first, second);
        }
        text = "";
        spent.clear();
        for (Man man : men) {
            man.at = 0;
            man.minds = 0;
        }
        keptSpent.replaceAll(x -> null);
        return lines.size();
    }

    private void tell(String word, int first, int second) {
        if (word.equals("ladder")) {
            h = first;
            weak.clear();
            gone.clear();
        } else if (word.equals("nobody")) {
            men.clear();
        } else if (word.equals("load")) {
            men.get(first).load = second;
        } else if (KINDS.contains(word)) {
            Man man = new Man();
            man.kind = word;
            man.reach = first;
            men.add(man);
        } else {
            weak.remove(first);
            gone.remove((Integer) first);
            if (word.equals("gone")) {
                gone.add(first);
            } else if (word.equals("weak")) {
                weak.put(first, second);
            }
        }
    }

    private boolean isFree(int r) {
        return r >= 1 && r <= h && !gone.contains(r) && !spent.containsKey(r);
    }

    private boolean isMan(int i) {
        return i >= 0 && i < men.size();
    }

    private static boolean isSet(int set, int size) {
        for (int i = 0; i < 32; i++) {
            if ((set >>> i & 1) == 1 && i >= size) {
                return false;
            }
        }
        return true;
    }

    long rung(int r, int what) {
        if (r < 1 || r > h) {
            return UNKNOWN;
        }
        boolean lost = gone.contains(r);
        switch (what) {
            case 0: return lost ? 2 : weak.containsKey(r) ? 1 : 0;
            case 1: return lost ? 0 : weak.getOrDefault(r, 10);
            case 2: return isFree(r) ? 1 : 0;
            case 3: return spent.getOrDefault(r, NONE);
            default: return OUTSIDE;
        }
    }

    long climber(int i, int what) {
        if (!isMan(i)) {
            return UNKNOWN;
        }
        Man man = men.get(i);
        int[] all = {KINDS.indexOf(man.kind), man.reach, man.load, man.stride(), man.at};
        return what < 0 || what > 4 ? OUTSIDE : all[what];
    }

    /** To which he would step, given what is free (bits). */
    private int next(Man man, int at, int free) {
        if (at + man.stride() > h) {
            return h + 1;
        }
        List<Integer> near = new ArrayList<>();
        List<Integer> minded = new ArrayList<>();
        for (int r = at + 1; r <= at + man.stride(); r++) {
            if ((free >> r - 1 & 1) == 1) {
                near.add(r);
                if ((man.minds >> r - 1 & 1) == 1) {
                    minded.add(r);
                }
            }
        }
        if (near.isEmpty()) {
            return NONE;
        }
        switch (man.kind) {
            case "near": return near.get(0);
            case "middle": return near.get((near.size() - 1) / 2);
            case "told": near = minded.isEmpty() ? near : minded; break;
            default: break;
        }
        return near.get(near.size() - 1);
    }

    private int freeBits() {
        int bits = 0;
        for (int r = 1; r <= h; r++) {
            bits |= isFree(r) ? 1 << r - 1 : 0;
        }
        return bits;
    }

    long as(int i, int kind) {
        if (!isMan(i)) {
            return UNKNOWN;
        }
        if (kind < 0 || kind > 4) {
            return OUTSIDE;
        }
        Man man = men.get(i);
        Map<String, List<Integer>> is = Map.of("far", List.of(0, 1), "near", List.of(0, 2), "middle", List.of(0, 2, 3),
            "told", List.of(0, 1, 4));
        if (!is.get(man.kind).contains(kind) || man.at == h + 1) {
            return NOT;
        }
        return next(man, man.at, freeBits());
    }

    long mind(int i, int set) {
        if (!isMan(i) || !isSet(set, h)) {
            return UNKNOWN;
        }
        if (!men.get(i).kind.equals("told")) {
            return NOT;
        }
        int was = men.get(i).minds;
        men.get(i).minds = set;
        return was;
    }

    // ---- climbs

    private boolean can(Man man, int from, int to) {
        return to > from && to <= from + man.stride() && (to == h + 1 || isFree(to));
    }

    long step(int i, int r) {
        if (!isMan(i) || r < 1 || r > h + 1) {
            return UNKNOWN;
        }
        if (!can(men.get(i), men.get(i).at, r)) {
            return NOT;
        }
        men.get(i).at = r;
        if (r <= h) {
            spent.put(r, i);
        }
        return r;
    }

    long climb(int i) {
        if (!isMan(i)) {
            return UNKNOWN;
        }
        Man man = men.get(i);
        if (man.at == h + 1) {
            return NOT;
        }
        while (man.at <= h) {
            int to = next(man, man.at, freeBits());
            if (to == NONE) {
                break;
            }
            step(i, to);
        }
        return man.at;
    }

    long lower(int i) {
        if (!isMan(i)) {
            return UNKNOWN;
        }
        int was = men.get(i).at;
        men.get(i).at = 0;
        return was;
    }

    long judge(int i, int set) {
        if (!isMan(i) || !isSet(set, h)) {
            return UNKNOWN;
        }
        List<Integer> row = new ArrayList<>(List.of(0));
        for (int r = 1; r <= h; r++) {
            if ((set >> r - 1 & 1) == 1) {
                row.add(r);
            }
        }
        row.add(h + 1);
        for (int j = 1; j < row.size(); j++) {
            if (!can(men.get(i), row.get(j - 1), row.get(j))) {
                return row.get(j);
            }
        }
        return NONE;
    }

    long keep(int k) {
        if (k != 0 && k != 1) {
            return UNKNOWN;
        }
        keptSpent.set(k, new TreeMap<>(spent));
        List<Integer> at = new ArrayList<>();
        for (Man man : men) {
            at.add(man.at);
        }
        keptAt.set(k, at);
        return spent.size();
    }

    long back(int k) {
        if (k != 0 && k != 1) {
            return UNKNOWN;
        }
        if (keptSpent.get(k) == null) {
            return NOT;
        }
        spent.clear();
        spent.putAll(keptSpent.get(k));
        for (int i = 0; i < men.size(); i++) {
            men.get(i).at = keptAt.get(k).get(i);
        }
        return spent.size();
    }

    // ---- foretold

    /** The most alike ones with these rungs free, by the document's stretches; 99. */
    private int stretches(int r, int free, boolean where) {
        if (h + 1 <= r) {
            return where ? NONE : 99;
        }
        int fewest = Integer.MAX_VALUE;
        int low = NONE;
        for (int a = 1; a + r - 1 <= h; a++) {
            int here = 0;
            for (int b = a; b < a + r; b++) {
                here += free >> b - 1 & 1;
            }
            if (here < fewest) {
                fewest = here;
                low = a;
            }
        }
        return where ? low : fewest;
    }

    long most(int r, int what) {
        if (r < 1 || r > 6 || what < 0 || what > 1) {
            return OUTSIDE;
        }
        return stretches(r, freeBits(), what == 1);
    }

    /** In how many ways those of these strides get up, who last stood on these rungs; cost: mends in the place of ways. */
    private long together(int rung, int[] strides, int[] last, boolean mending, Map<String, Long> known) {
        for (int i = 0; i < strides.length; i++) {
            if (rung - last[i] > strides[i] && last[i] < rung) {
                return mending ? 1000 : 0;
            }
        }
        if (rung == h + 1) {
            return mending ? 0 : 1;
        }
        String key = rung + Arrays.toString(last);
        Long had = known.get(key);
        if (had != null) {
            return had;
        }
        long all = together(rung + 1, strides, behind(rung, strides, last, NONE), mending, known);
        if (isFree(rung) || mending) {
            for (int i = 0; i < strides.length; i++) {
                long one = together(rung + 1, strides, behind(rung, strides, last, i), mending, known);
                all = mending ? Math.min(all, one + (isFree(rung) ? 0 : 1)) : all + one;
            }
        }
        known.put(key, all);
        return all;
    }

    private static int[] behind(int rung, int[] strides, int[] last, int i) {
        int[] then = last.clone();
        if (i != NONE) {
            then[i] = rung;
        }
        return then;
    }

    private int[] strides(int set) {
        List<Integer> list = new ArrayList<>();
        for (int i = 0; i < men.size(); i++) {
            if ((set >> i & 1) == 1) {
                list.add(men.get(i).stride());
            }
        }
        return list.stream().mapToInt(x -> x).toArray();
    }

    private long waysBy(int[] strides) {
        return together(1, strides, new int[strides.length], false, new HashMap<>());
    }

    long ways(int set) {
        return isSet(set, men.size()) ? waysBy(strides(set)) : UNKNOWN;
    }

    long largest(int what) {
        if (what < 0 || what > 1) {
            return OUTSIDE;
        }
        for (int size = men.size(); size >= 0; size--) {
            for (int set = 0; set < 32; set++) {
                if (isSet(set, men.size()) && Integer.bitCount(set) == size && ways(set) > 0) {
                    return what == 0 ? size : set;
                }
            }
        }
        throw new IllegalStateException();
    }

    private static void rows(List<Integer> left, List<Integer> row, List<List<Integer>> all) {
        if (left.isEmpty()) {
            all.add(new ArrayList<>(row));
        }
        for (Integer one : left) {
            List<Integer> others = new ArrayList<>(left);
            others.remove(one);
            row.add(one);
            rows(others, row, all);
            row.remove(row.size() - 1);
        }
    }

    private int upBy(List<Integer> row) {
        int free = freeBits();
        int up = 0;
        for (int i : row) {
            int at = 0;
            while (at != h + 1) {
                int to = next(men.get(i), at, free);
                if (to == NONE) {
                    break;
                }
                free &= ~(1 << to - 1);
                at = to;
            }
            up += at == h + 1 ? 1 : 0;
        }
        return up;
    }

    long order(int set, int i) {
        if (!isSet(set, men.size())) {
            return UNKNOWN;
        }
        if (i < NONE) {
            return OUTSIDE;
        }
        List<Integer> those = new ArrayList<>();
        for (int j = 0; j < 5; j++) {
            if ((set >> j & 1) == 1) {
                those.add(j);
            }
        }
        List<List<Integer>> all = new ArrayList<>();
        rows(those, new ArrayList<>(), all);
        List<Integer> best = all.get(0);
        for (List<Integer> row : all) {
            best = upBy(row) > upBy(best) ? row : best;
        }
        return i == NONE ? upBy(best) : i < best.size() ? best.get(i) : NONE;
    }

    long mends(int set) {
        if (!isSet(set, men.size())) {
            return UNKNOWN;
        }
        int[] strides = strides(set);
        long fewest = together(1, strides, new int[strides.length], true, new HashMap<>());
        return fewest >= 1000 ? NONE : fewest;
    }

    long spoilt(int r, int k) {
        if (r < 1 || r > 6 || k < 0 || k > 9) {
            return OUTSIDE;
        }
        if (h + 1 <= r) {
            return NONE;
        }
        int free = freeBits();
        if (Integer.bitCount(free) > 11) {
            return NOT_TRIED;
        }
        int fewest = Integer.MAX_VALUE;
        for (int taken = 0; taken < 1 << h; taken++) {
            if ((taken & ~free) == 0 && stretches(r, free & ~taken, false) <= k) {
                fewest = Math.min(fewest, Integer.bitCount(taken));
            }
        }
        return fewest;
    }

    /** By trials with so many alike ones, two for each who goes up and comes down. */
    long both(int r) {
        if (r < 1 || r > 6) {
            return OUTSIDE;
        }
        if (h + 1 <= r) {
            return 99;
        }
        if (h > 9) {
            return NOT_TRIED;
        }
        int n = 0;
        while (waysBy(alike(r, 2 * n + 2)) > 0) {
            n++;
        }
        return n;
    }

    /** Whether the document's stretches tell how many alike ones can be up. */
    boolean stretchesHold(int r) {
        int n = stretches(r, freeBits(), false);
        return n == 99 || h > 9 || waysBy(alike(r, n)) > 0 && waysBy(alike(r, n + 1)) == 0;
    }

    private static int[] alike(int r, int n) {
        int[] strides = new int[n];
        Arrays.fill(strides, r);
        return strides;
    }

    long odds(int r, int part) {
        if (r < 1 || r > 6 || part < 0 || part > 1) {
            return OUTSIDE;
        }
        List<Integer> doubtful = new ArrayList<>();
        for (int w : weak.keySet()) {
            if (isFree(w)) {
                doubtful.add(w);
            }
        }
        if (doubtful.size() > 12) {
            return NOT;
        }
        BigInteger above = BigInteger.ZERO;
        for (int holding = 0; holding < 1 << doubtful.size(); holding++) {
            int free = freeBits();
            BigInteger weight = BigInteger.ONE;
            for (int j = 0; j < doubtful.size(); j++) {
                int w = doubtful.get(j);
                boolean so = (holding >> j & 1) == 1;
                weight = weight.multiply(BigInteger.valueOf(so ? weak.get(w) : 10 - weak.get(w)));
                free &= so ? -1 : ~(1 << w - 1);
            }
            above = getsUp(r, free) ? above.add(weight) : above;
        }
        BigInteger below = BigInteger.TEN.pow(doubtful.size());
        BigInteger common = above.gcd(below);
        return (part == 0 ? above : below).divide(common).longValueExact();
    }

    private boolean getsUp(int r, int free) {
        Man man = new Man();
        man.kind = "far";
        man.reach = r;
        int at = 0;
        while (at != h + 1 && at != NONE) {
            at = next(man, at, free);
        }
        return at == h + 1;
    }

    long fits(int set, int what) {
        if (!isSet(set, h)) {
            return UNKNOWN;
        }
        if (what != 0 && what != 1) {
            return OUTSIDE;
        }
        int free = 0;
        for (int r = 1; r <= h; r++) {
            free |= gone.contains(r) ? 0 : 1 << r - 1;
        }
        int reaches = 0;
        for (int reach = 1; reach <= 6; reach++) {
            Man man = new Man();
            man.kind = KINDS.get(what);
            man.reach = reach;
            int trod = 0;
            int at = next(man, 0, free);
            while (at != NONE && at != h + 1) {
                trod |= 1 << at - 1;
                at = next(man, at, free);
            }
            reaches |= at == h + 1 && trod == set ? 1 << reach - 1 : 0;
        }
        return reaches;
    }

    long make(int set, int height) {
        if (!isSet(set, men.size())) {
            return UNKNOWN;
        }
        if (height < 1 || height > 20) {
            return OUTSIDE;
        }
        int needed = 0;
        for (int stride : strides(set)) {
            for (int at = stride; at < height + 1; at += stride) {
                needed++;
            }
        }
        return needed;
    }

    long count(int what) {
        int spentBits = 0;
        for (int r : spent.keySet()) {
            spentBits |= 1 << r - 1;
        }
        int goneBits = 0;
        for (int r : gone) {
            goneBits |= 1 << r - 1;
        }
        int top = 0;
        for (int i = 0; i < men.size(); i++) {
            top |= men.get(i).at == h + 1 ? 1 << i : 0;
        }
        int[] all = {h, men.size(), freeBits(), spentBits, goneBits, top, text.length()};
        return what < 0 || what > 6 ? OUTSIDE : all[what];
    }
}
