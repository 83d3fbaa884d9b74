import java.util.ArrayList;
import java.util.List;

/** All that can be seen of a queue, in parts, as one object has not calls enough for all. */
enum Looks {
    PEOPLE, WISHES, KEYS, PAD, HISTORY, SLOTS;

    /** What undo brings back, as far as it can be asked for. */
    static final List<Looks> OF_THE_STATE = List.of(PEOPLE, WISHES, KEYS);
    static final List<Looks> ALL = List.of(values());

    List<String> at(Queue q) {
        List<String> seen = new ArrayList<>();
        switch (this) {
            case PEOPLE -> people(q, seen);
            case WISHES -> wishes(q, seen);
            case KEYS -> keys(q, seen);
            case PAD -> pad(q, seen);
            case HISTORY -> history(q, seen);
            case SLOTS -> slots(q, seen);
        }
        return seen;
    }

    private static void people(Queue q, List<String> seen) {
        for (int what = 0; what <= 8; what++) {
            seen.add("count(" + what + ") = " + q.count(what));
        }
        for (int singer = 0; singer < q.count(0); singer++) {
            for (int what = 0; what <= 6; what++) {
                seen.add("of(" + singer + ", " + what + ") = " + q.of(singer, what));
            }
            seen.add("ifLeft(" + singer + ") = " + q.ifLeft(singer));
        }
        for (int song = 0; song < q.count(2); song++) {
            for (int what = 0; what <= 4; what++) {
                seen.add("ofSong(" + song + ", " + what + ") = " + q.ofSong(song, what));
            }
        }
        for (int back = 0; back < 12; back++) {
            for (int what = 0; what <= 3; what++) {
                seen.add("past(" + back + ", " + what + ") = " + q.past(back, what));
            }
        }
        seen.add("endOfAll() = " + q.endOfAll());
    }

    private static void wishes(Queue q, List<String> seen) {
        int size = q.count(3);
        for (int wish = 0; wish < size; wish++) {
            for (int what = 0; what <= 6; what++) {
                seen.add("inQueue(" + wish + ", " + what + ") = " + q.inQueue(wish, what));
            }
            for (int what = 0; what <= 1; what++) {
                seen.add("turnOf(" + wish + ", " + what + ") = " + q.turnOf(wish, what));
                seen.add("heldUpBy(" + wish + ", " + what + ") = " + q.heldUpBy(wish, what));
            }
        }
    }

    private static void keys(Queue q, List<String> seen) {
        int singers = q.count(0);
        int songs = q.count(2);
        for (int one = 0; one < singers; one++) {
            for (int song = 0; song < songs; song++) {
                seen.add("key(" + one + ", NONE, " + song + ") = " + q.key(one, -6, song));
            }
            for (int other = 0; other < one; other++) {
                seen.add("together(" + one + ", " + other + ") = " + q.together(one, other));
            }
        }
    }

    /** What stands on the pad shows when it is read, also when it ends too early for a digit. */
    private static void pad(Queue q, List<String> seen) {
        seen.add("count(9) = " + q.count(9));
        seen.add("fault() = " + q.fault());
        seen.add("put(0) = " + q.put('0'));
        seen.add("fault() = " + q.fault());
        seen.add("read() = " + q.read());
        shortWishes(q, seen);
        seen.add("wipe() = " + q.wipe());
    }

    private static void history(Queue q, List<String> seen) {
        seen.add("count(10) = " + q.count(10));
        int left = q.undo();
        while (left >= 0) {
            seen.add("undo() = " + left);
            shortLook(q, seen);
            left = q.undo();
        }
        seen.add("undo() = " + left);
    }

    private static void slots(Queue q, List<String> seen) {
        for (int slot = 0; slot <= 1; slot++) {
            seen.add("restore(" + slot + ") = " + q.restore(slot));
            shortLook(q, seen);
            for (int singer = 0; singer < q.count(0); singer++) {
                seen.add("of(" + singer + ", 6) = " + q.of(singer, 6));
            }
        }
    }

    private static void shortLook(Queue q, List<String> seen) {
        for (int what = 0; what <= 8; what++) {
            seen.add("count(" + what + ") = " + q.count(what));
        }
        for (int what = 0; what <= 3; what++) {
            seen.add("past(0, " + what + ") = " + q.past(0, what));
        }
        shortWishes(q, seen);
    }

    private static void shortWishes(Queue q, List<String> seen) {
        int size = q.count(3);
        for (int wish = 0; wish < size; wish++) {
            seen.add("inQueue(" + wish + ", 0) = " + q.inQueue(wish, 0));
            seen.add("inQueue(" + wish + ", 2) = " + q.inQueue(wish, 2));
        }
    }
}
