/** Counts answers, and tells those that are not the ones that are due. */
final class Due {
    private String about = "";
    private int asked;
    private int wrong;

    void about(String what) {
        about = what;
    }

    void is(String call, long got, long want) {
        asked++;
        if (got != want) {
            wrong++;
            if (wrong <= 50) {
                System.out.println(about + ": " + call + " answered " + got + ", due is " + want);
            }
        }
    }

    void holds(String what, boolean so) {
        is(what, so ? 1 : 0, 1);
    }

    /** Ends the program with 1, if an answer was wrong. */
    void end(String name) {
        System.out.println(name + ": " + asked + " answers, " + wrong + " of them wrong");
        if (wrong != 0 || asked == 0) {
            System.exit(1);
        }
    }

    /** Writes a text, eight bytes a call, and answers how many bytes there are. */
    static int write(OldLadder x, String text) {
        int has = x.count(6);
        for (int from = 0; from < text.length(); from += 8) {
            int n = Math.min(8, text.length() - from);
            long bytes = 0;
            for (int i = 0; i < n; i++) {
                bytes |= (long) (text.charAt(from + i) & 255) << 8 * i;
            }
            has = x.write(bytes, n);
        }
        return has;
    }

    static OldLadder told(String text) {
        OldLadder x = new OldLadder();
        write(x, text);
        if (x.ladder() < 0) {
            throw new IllegalStateException("the test's own text has a fault: " + text);
        }
        return x;
    }

    static int faultOf(OldLadder x, String text) {
        x.erase();
        write(x, text);
        return x.fault();
    }
}
