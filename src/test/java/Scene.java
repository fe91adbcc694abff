import java.util.function.ToLongFunction;

/** Objects made always alike, and all that can be seen of one, so that "nothing changes" can be held against it. */
final class Scene {
    private final String told;
    private final ToLongFunction<OldLadder> made;

    /** A new object, told that text (none, if it is empty), with which those calls are then made. */
    Scene(String told, ToLongFunction<OldLadder> made) {
        this.told = told;
        this.made = made;
    }

    Scene(String told) {
        this(told, x -> 0);
    }

    OldLadder fresh() {
        OldLadder x = told.isEmpty() ? new OldLadder() : Due.told(told);
        made.applyAsLong(x);
        return x;
    }

    /** What the call answers on a fresh object. */
    long answer(ToLongFunction<OldLadder> call) {
        return call.applyAsLong(fresh());
    }

    /** Whether the object looks alike with the call and without it. */
    boolean isLeft(ToLongFunction<OldLadder> call) {
        OldLadder x = fresh();
        call.applyAsLong(x);
        return look(x).equals(look(fresh()));
    }

    /** Ends with calls that change the object, as what is minded, kept and written can be seen in no other way. */
    static String look(OldLadder x) {
        StringBuilder seen = new StringBuilder();
        lookNow(x, seen);
        for (int i = 0; i < 5; i++) {
            add(seen, "as", x.as(i, 0));
            add(seen, "minds", x.mind(i, 0));
        }
        for (int k = 0; k < 2; k++) {
            add(seen, "back", x.back(k));
            lookAtClimbs(x, seen);
        }
        add(seen, "fault", x.fault());
        add(seen, "ladder", x.ladder());
        lookNow(x, seen);
        add(seen, "had", x.erase());
        return seen.toString();
    }

    private static void lookNow(OldLadder x, StringBuilder seen) {
        for (int what = 0; what <= 6; what++) {
            add(seen, "count", x.count(what));
        }
        for (int i = 0; i < 5; i++) {
            for (int what = 0; what <= 4; what++) {
                add(seen, "climber", x.climber(i, what));
            }
        }
        for (int r = 1; r <= 20; r++) {
            for (int what = 0; what <= 3; what++) {
                add(seen, "rung", x.rung(r, what));
            }
        }
    }

    private static void lookAtClimbs(OldLadder x, StringBuilder seen) {
        add(seen, "spent", x.count(3));
        for (int i = 0; i < 5; i++) {
            add(seen, "at", x.climber(i, 4));
        }
        for (int r = 1; r <= 20; r++) {
            add(seen, "who", x.rung(r, 3));
        }
    }

    private static void add(StringBuilder seen, String what, long answer) {
        seen.append(what).append(' ').append(answer).append('\n');
    }
}
