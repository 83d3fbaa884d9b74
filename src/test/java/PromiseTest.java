/** For each promise of ../shared/DOC.md: ordinary inputs, the edges that it names, and wrong inputs. */
public final class PromiseTest {
    private static final int NO_SUCH = -1, BAD_VALUE = -2, BAD_TEXT = -3, TOO_MANY = -4, NOT_POSSIBLE = -5, NONE = -6;
    private static final int LEAST = Integer.MIN_VALUE, GREATEST = Integer.MAX_VALUE;

    private static int wrong = 0;
    private static int checked = 0;

    public static void main(String[] args) {
        promise1NewObject();
        promise2Singer();
        promise3Song();
        promise4Leave();
        promise5Wish();
        promise5WishErrorsInOrder();
        promise6TakeBack();
        promise7Sing();
        promise7NextWish();
        promise7TiredOnes();
        promise8Read();
        promise8ReadErrors();
        promise9Of();
        promise10InQueue();
        promise11Key();
        promise12OfSong();
        promise13Past();
        promise14Count();
        promise15TurnOf();
        promise16EndOfAll();
        promise17IfLeft();
        promise18HeldUpBy();
        promise18HeldUpByNobody();
        promise18LaterWithout();
        promise19Together();
        promise20Put();
        promise21Wipe();
        promise22Fault();
        promise23Undo();
        promise23UndoEachChange();
        promise23NewOnesAfterUndo();
        promise24Save();
        promise25Restore();
        constants();
        System.out.println("PromiseTest: " + checked + " answers checked, " + wrong + " wrong");
        if (wrong != 0) {
            System.exit(1);
        }
    }

    private static void due(String call, long got, long want) {
        checked++;
        if (got != want) {
            wrong++;
            System.out.println("PromiseTest: " + call + " answered " + got + ", due is " + want);
        }
    }

    // ---- helpers

    /** So many singers who can sing everything, and songs with the lengths given. */
    private static SingerQueue evening(int singers, int... lengths) {
        SingerQueue q = new SingerQueue();
        for (int i = 0; i < singers; i++) {
            q.singer(0, 60);
        }
        for (int length : lengths) {
            q.song(20, 30, length);
        }
        return q;
    }

    private static long pack(String text) {
        long characters = 0;
        for (int i = 0; i < text.length(); i++) {
            characters = characters << 8 | text.charAt(i);
        }
        return characters;
    }

    private static void write(SingerQueue q, String text) {
        for (int i = 0; i < text.length(); i += 8) {
            String part = text.substring(i, Math.min(text.length(), i + 8));
            due("put " + part, q.put(pack(part)), i + part.length());
        }
    }

    private static void fault(String text, int want) {
        SingerQueue q = new SingerQueue();
        write(q, text);
        due("fault of " + text, q.fault(), want);
        due("fault of " + text + " again", q.fault(), want);
        due("read of " + text, q.read(), want == NONE ? NO_SUCH : BAD_TEXT);
        due("the pad after " + text, q.count(9), text.length());
    }

    private static void wishIs(SingerQueue q, int wish, int first, int other, int song) {
        due("first singer of wish " + wish, q.inQueue(wish, 0), first);
        due("other singer of wish " + wish, q.inQueue(wish, 1), other);
        due("song of wish " + wish, q.inQueue(wish, 2), song);
    }

    private static void turnWas(SingerQueue q, int back, int first, int other, int song, int begin) {
        due("first singer of turn " + back, q.past(back, 0), first);
        due("other singer of turn " + back, q.past(back, 1), other);
        due("song of turn " + back, q.past(back, 2), song);
        due("begin of turn " + back, q.past(back, 3), begin);
    }

    /** Sings turn by turn, and compares the first singers. */
    private static void order(SingerQueue q, int... singers) {
        for (int i = 0; i < singers.length; i++) {
            due("sing(1) for turn " + i, q.sing(1), 1);
            due("singer of turn " + i, q.past(0, 0), singers[i]);
        }
    }

    // ---- promises

    private static void promise1NewObject() {
        SingerQueue q = new SingerQueue();
        for (int what = 0; what <= 10; what++) {
            due("count " + what + " of a new evening", q.count(what), what == 5 ? NONE : 0);
        }
        due("endOfAll of a new evening", q.endOfAll(), 0);
        due("past of a new evening", q.past(0, 0), NO_SUCH);
        due("undo of a new evening", q.undo(), NOT_POSSIBLE);
        due("restore of a new evening", q.restore(0), NOT_POSSIBLE);
        due("restore of a new evening", q.restore(1), NOT_POSSIBLE);
        evening(3, 1, 2);
        due("singers, when another object has some", q.count(0), 0);
    }

    private static void promise2Singer() {
        SingerQueue q = new SingerQueue();
        int[][] bad = {{-1, 5}, {LEAST, 5}, {61, 61}, {61, 60}, {5, 4}, {0, -1}, {0, 61}, {60, 61}, {0, GREATEST}, {30, LEAST}};
        for (int[] voice : bad) {
            due("singer " + voice[0] + " to " + voice[1], q.singer(voice[0], voice[1]), BAD_VALUE);
        }
        due("singers after bad ones", q.count(0), 0);
        due("changes after bad ones", q.count(10), 0);
        int[][] good = {{0, 0}, {60, 60}, {0, 60}, {7, 9}};
        for (int i = 0; i < good.length; i++) {
            due("singer " + i, q.singer(good[i][0], good[i][1]), i);
            due("lowest of " + i, q.of(i, 0), good[i][0]);
            due("highest of " + i, q.of(i, 1), good[i][1]);
            due("is there " + i, q.of(i, 2), 1);
        }
        for (int i = 4; i < 12; i++) {
            due("singer " + i, q.singer(1, 2), i);
        }
        due("all there", q.count(1), 0xfff);
        due("one singer too many", q.singer(1, 2), TOO_MANY);
        due("bad ahead of too many", q.singer(2, 1), BAD_VALUE);
        due("singers", q.count(0), 12);
    }

    private static void promise3Song() {
        SingerQueue q = new SingerQueue();
        int[][] bad = {{-1, 5, 1}, {LEAST, 0, 1}, {61, 61, 1}, {5, 4, 1}, {0, 61, 1}, {0, GREATEST, 1},
            {0, 5, 0}, {0, 5, 10}, {0, 5, -1}, {0, 5, LEAST}, {0, 5, GREATEST}};
        for (int[] song : bad) {
            due("song " + song[0] + " to " + song[1] + ", " + song[2], q.song(song[0], song[1], song[2]), BAD_VALUE);
        }
        due("songs after bad ones", q.count(2), 0);
        due("changes after bad ones", q.count(10), 0);
        int[][] good = {{0, 0, 1}, {60, 60, 9}, {0, 60, 5}};
        for (int i = 0; i < good.length; i++) {
            due("song " + i, q.song(good[i][0], good[i][1], good[i][2]), i);
            for (int what = 0; what < 3; what++) {
                due("song " + i + ", " + what, q.ofSong(i, what), good[i][what]);
            }
        }
        for (int i = 3; i < 16; i++) {
            due("song " + i, q.song(1, 2, 3), i);
        }
        due("one song too many", q.song(1, 2, 3), TOO_MANY);
        due("bad ahead of too many", q.song(1, 2, 10), BAD_VALUE);
        due("songs", q.count(2), 16);
    }

    private static void promise4Leave() {
        SingerQueue q = evening(3, 2);
        for (int nobody : new int[] {-1, 3, NONE, LEAST, GREATEST}) {
            due("leave " + nobody, q.leave(nobody, true), NO_SUCH);
            due("come back " + nobody, q.leave(nobody, false), NO_SUCH);
        }
        due("come back, and is there", q.leave(1, false), NOT_POSSIBLE);
        due("changes", q.count(10), 4);
        due("leave", q.leave(1, true), 2);
        due("is there", q.of(1, 2), 0);
        due("set of those there", q.count(1), 0b101);
        due("singers", q.count(0), 3);
        due("leave again", q.leave(1, true), NOT_POSSIBLE);
        due("another leaves", q.leave(0, true), 1);
        due("the last one leaves", q.leave(2, true), 0);
        due("set of those there", q.count(1), 0);
        due("come back", q.leave(2, false), 1);
        due("set of those there", q.count(1), 0b100);
    }

    private static void promise5Wish() {
        SingerQueue q = evening(3, 2, 3);
        due("wish", q.wish(2, NONE, 1), 0);
        due("wish", q.wish(0, 2, 0), 1);
        due("the same wish again", q.wish(2, NONE, 1), 2);
        q.leave(1, true);
        due("wish of one who has left", q.wish(1, NONE, 0), 3);
        due("wish with one who has left", q.wish(2, 1, 0), 4);
        wishIs(q, 0, 2, NONE, 1);
        wishIs(q, 1, 0, 2, 0);
        wishIs(q, 2, 2, NONE, 1);
        wishIs(q, 3, 1, NONE, 0);
        wishIs(q, 4, 2, 1, 0);
    }

    private static void promise5WishErrorsInOrder() {
        SingerQueue q = evening(2, 2);
        q.singer(40, 60);
        for (int nobody : new int[] {-1, 3, NONE, LEAST, GREATEST}) {
            due("singer " + nobody, q.wish(nobody, NONE, 0), NO_SUCH);
            due("singer twice " + nobody, q.wish(nobody, nobody, 0), NO_SUCH);
            if (nobody != NONE) {
                due("other " + nobody, q.wish(0, nobody, 0), NO_SUCH);
            }
        }
        for (int nothing : new int[] {-1, 1, NONE, LEAST, GREATEST}) {
            due("song " + nothing, q.wish(0, NONE, nothing), NO_SUCH);
            due("no song ahead of same singer", q.wish(0, 0, nothing), NO_SUCH);
        }
        due("same singer", q.wish(1, 1, 0), BAD_VALUE);
        due("same singer ahead of no key", q.wish(2, 2, 0), BAD_VALUE);
        due("no key", q.wish(2, NONE, 0), NOT_POSSIBLE);
        due("no key for both", q.wish(0, 2, 0), NOT_POSSIBLE);
        due("no key for both", q.wish(2, 0, 0), NOT_POSSIBLE);
        due("wishes", q.count(3), 0);
        due("changes", q.count(10), 4);
        for (int i = 0; i < 20; i++) {
            due("wish " + i, q.wish(i & 1, NONE, 0), i);
        }
        due("too many", q.wish(0, NONE, 0), TOO_MANY);
        due("too many ahead of no key", q.wish(2, NONE, 0), TOO_MANY);
        due("same singer ahead of too many", q.wish(1, 1, 0), BAD_VALUE);
        due("no such ahead of too many", q.wish(3, 1, 0), NO_SUCH);
        due("wishes", q.count(3), 20);
    }

    private static void promise6TakeBack() {
        SingerQueue q = evening(4, 2, 3);
        due("none to take back", q.takeBack(0), NO_SUCH);
        q.wish(0, NONE, 0);
        q.wish(1, 0, 1);
        q.wish(2, 3, 0);
        q.wish(3, NONE, 1);
        for (int nothing : new int[] {-1, 4, NONE, LEAST, GREATEST}) {
            due("take back " + nothing, q.takeBack(nothing), NO_SUCH);
        }
        due("take back 1", q.takeBack(1), 3);
        wishIs(q, 0, 0, NONE, 0);
        wishIs(q, 1, 2, 3, 0);
        wishIs(q, 2, 3, NONE, 1);
        due("no wish 3", q.inQueue(3, 0), NO_SUCH);
        due("take back the last", q.takeBack(2), 2);
        due("take back the first", q.takeBack(0), 1);
        wishIs(q, 0, 2, 3, 0);
        due("nobody sang", q.count(7), 0);
        due("no time passed", q.count(6), 0);
        due("nobody is tired", q.count(8), 0);
        due("take back the only one", q.takeBack(0), 0);
    }

    private static void promise7Sing() {
        SingerQueue q = evening(2, 2, 5);
        for (int turns : new int[] {0, 21, -1, LEAST, GREATEST}) {
            due("sing " + turns, q.sing(turns), BAD_VALUE);
        }
        due("changes", q.count(10), 4);
        due("sing with an empty queue", q.sing(20), 0);
        due("that is a change", q.count(10), 5);
        for (int i = 0; i < 20; i++) {
            q.wish(i & 1, NONE, i & 1);
        }
        due("sing 1", q.sing(1), 1);
        due("sing 3", q.sing(3), 3);
        due("wishes left", q.count(3), 16);
        due("minutes", q.count(6), 14);
        due("turns", q.count(7), 4);
        due("sing the others", q.sing(20), 16);
        due("minutes", q.count(6), 70);
        due("turns of 0", q.of(0, 3), 10);
        due("minutes of 1", q.of(1, 6), 50);
        for (int i = 0; i < 20; i++) {
            q.wish(0, NONE, 0);
        }
        due("sing 20", q.sing(20), 20);
        due("turns", q.count(7), 40);
    }

    private static void promise7NextWish() {
        SingerQueue q = evening(4, 1);
        q.wish(0, NONE, 0);
        q.wish(0, NONE, 0);
        q.wish(1, 2, 0);
        q.wish(3, NONE, 0);
        q.wish(2, NONE, 0);
        order(q, 0);
        // 1 with 2 is earlier than 3, who sang as little; 0 is tired
        order(q, 1);
        due("the other one of the duet", q.past(0, 1), 2);
        // 2 is tired, 0 sang once, 3 never
        order(q, 3);
        // 0 and 2 sang once, and both are fresh
        order(q, 0, 2);
        // a duet counts the turns of the one who sang more
        q.wish(0, 3, 0);
        q.wish(3, NONE, 0);
        due("turns that count for the duet", q.inQueue(0, 6), 2);
        due("turns that count for 3", q.inQueue(1, 6), 1);
        due("next", q.count(5), 1);
        // the first singer may be the one who sang more, or the other one
        q.takeBack(0);
        q.wish(3, 0, 0);
        due("turns that count for the duet", q.inQueue(1, 6), 2);
    }

    private static void promise7TiredOnes() {
        SingerQueue q = evening(4, 1);
        q.wish(0, 1, 0);
        q.sing(1);
        due("tired ones", q.count(8), 0b11);
        q.wish(0, NONE, 0);
        q.wish(2, 1, 0);
        due("none is fresh, 2 with 1 has as many turns", q.count(5), 0);
        q.wish(3, NONE, 0);
        due("3 is fresh", q.count(5), 2);
        q.leave(3, true);
        due("3 is not ready", q.count(5), 0);
        q.leave(0, true);
        due("tired ones, when 0 has left", q.count(8), 0b11);
        due("0 is tired still", q.of(0, 4), 1);
        due("2 with 1 is not fresh, but ready", q.count(5), 1);
        q.leave(2, true);
        due("nobody is ready", q.count(5), NONE);
        due("sing", q.sing(5), 0);
        due("wishes", q.count(3), 3);
        q.leave(3, false);
        order(q, 3);
        due("tired ones", q.count(8), 0b1000);
        q.leave(0, false);
        q.wish(3, NONE, 0);
        order(q, 0);
        q.wish(0, NONE, 0);
        // 0 sang twice and is tired; 3 sang once, and is fresh
        order(q, 3, 0);
        q.wish(0, NONE, 0);
        due("nobody else is ready", q.sing(2), 1);
        due("0 sang twice in a row", q.past(1, 0), 0);
        // who is fresh goes ahead, though the tired one sang less
        q.leave(2, false);
        q.takeBack(0);
        q.wish(2, NONE, 0);
        q.wish(2, NONE, 0);
        q.wish(0, NONE, 0);
        order(q, 2);
        due("2 sang once", q.inQueue(0, 6), 1);
        due("0 sang four times", q.inQueue(1, 6), 4);
        due("0 is next", q.count(5), 1);
    }

    private static void promise8Read() {
        SingerQueue q = evening(12, 1, 1, 1, 1, 1, 1, 1, 1, 1, 1, 1, 1, 1, 1, 1, 1);
        q.wish(4, NONE, 4);
        write(q, "11+0:15;3:0;0+11:9");
        due("read", q.read(), 4);
        due("the pad is empty", q.count(9), 0);
        wishIs(q, 0, 4, NONE, 4);
        wishIs(q, 1, 11, 0, 15);
        wishIs(q, 2, 3, NONE, 0);
        wishIs(q, 3, 0, 11, 9);
        due("read an empty pad", q.read(), BAD_TEXT);
        write(q, "0:0;0:0;0:0;0:0;0:0;0:0;0:0;0:0;0:0;0:0;0:0;0:0;0:0;0:0;0:10");
        due("fifteen wishes and four are 19", q.read(), 19);
        wishIs(q, 18, 0, NONE, 10);
        write(q, "10:1");
        due("the 20th", q.read(), 20);
        due("undo of read", q.undo(), 5);
        due("wishes then", q.count(3), 19);
        due("the pad stays empty", q.count(9), 0);
    }

    private static void promise8ReadErrors() {
        String[][] faults = {{"0:0;4:0", "no such"}, {"0:0;0:3", "no such"}, {"0+4:0", "no such"}, {"4+4:0", "no such"},
            {"0:0;1+1:0", "bad"}, {"2+2:0", "bad"}, {"2:0", "key"}, {"0+2:0", "key"},
            {"2:0;4:0", "key"}, {"4:0;2:0", "no such"}, {"1+1:0;2:0;4:0", "bad"}, {"0:0;", "text"}, {"4:0;1+1:0;x", "text"}};
        for (String[] fault : faults) {
            SingerQueue q = evening(2, 1, 2, 3);
            q.singer(50, 60);
            q.singer(0, 60);
            write(q, fault[0]);
            int want = fault[1].equals("no such") ? NO_SUCH : fault[1].equals("bad") ? BAD_VALUE
                    : fault[1].equals("text") ? BAD_TEXT : NOT_POSSIBLE;
            int changes = q.count(10);
            due("read " + fault[0], q.read(), want);
            due("wishes after it", q.count(3), 0);
            due("pad after it", q.count(9), fault[0].length());
            due("changes after it", q.count(10), changes);
        }
        promise8ReadTooMany();
    }

    private static void promise8ReadTooMany() {
        SingerQueue q = evening(2, 1);
        q.singer(50, 60);
        for (int i = 0; i < 18; i++) {
            q.wish(0, NONE, 0);
        }
        write(q, "0:0;1:0;0:0");
        due("three to 18", q.read(), TOO_MANY);
        due("wishes", q.count(3), 18);
        q.wipe();
        write(q, "0:0;1:0;2:0");
        due("too many ahead of no key", q.read(), TOO_MANY);
        q.wipe();
        write(q, "0:0;1:0;1+1:0");
        due("same singer ahead of too many", q.read(), BAD_VALUE);
        q.wipe();
        write(q, "0:0;1:0;0:0;5:0");
        due("too many, as that wish is the first", q.read(), TOO_MANY);
        q.wipe();
        write(q, "0:0;2:0;0:0");
        due("no key, as that wish is the first", q.read(), NOT_POSSIBLE);
        q.wipe();
        write(q, "0:0;1:0");
        due("two to 18", q.read(), 20);
    }

    private static void promise9Of() {
        SingerQueue q = evening(1, 4, 7);
        q.singer(15, 33);
        for (int nobody : new int[] {-1, 2, NONE, LEAST, GREATEST}) {
            due("of " + nobody, q.of(nobody, 0), NO_SUCH);
            due("no such ahead of bad", q.of(nobody, 7), NO_SUCH);
        }
        for (int what : new int[] {-1, 7, LEAST, GREATEST}) {
            due("of 0, " + what, q.of(0, what), BAD_VALUE);
        }
        q.wish(0, NONE, 0);
        q.wish(0, 1, 1);
        q.wish(1, 0, 0);
        q.wish(1, NONE, 0);
        due("wishes of 0", q.of(0, 5), 3);
        due("wishes of 1", q.of(1, 5), 3);
        q.sing(1);
        q.leave(1, true);
        int[] zero = {0, 60, 1, 1, 1, 2, 4};
        int[] one = {15, 33, 0, 0, 0, 3, 0};
        for (int what = 0; what < 7; what++) {
            due("of 0, " + what, q.of(0, what), zero[what]);
            due("of 1, " + what, q.of(1, what), one[what]);
        }
        q.leave(1, false);
        q.sing(20);
        due("turns of 0", q.of(0, 3), 3);
        due("turns of 1", q.of(1, 3), 3);
        due("minutes of 0", q.of(0, 6), 15);
        due("minutes of 1", q.of(1, 6), 15);
        due("wishes of 0", q.of(0, 5), 0);
    }

    private static void promise10InQueue() {
        SingerQueue q = evening(2, 4, 7);
        q.singer(32, 60);
        due("no wish", q.inQueue(0, 0), NO_SUCH);
        q.wish(0, NONE, 1);
        q.sing(1);
        q.wish(1, 0, 1);
        q.wish(1, NONE, 0);
        q.song(27, 40, 3);
        q.wish(2, 1, 2);
        q.leave(2, true);
        for (int nothing : new int[] {-1, 3, NONE, LEAST, GREATEST}) {
            due("wish " + nothing, q.inQueue(nothing, 0), NO_SUCH);
            due("no such ahead of bad", q.inQueue(nothing, 7), NO_SUCH);
        }
        for (int what : new int[] {-1, 7, LEAST, GREATEST}) {
            due("wish 0, " + what, q.inQueue(0, what), BAD_VALUE);
        }
        int[][] want = {{1, 0, 1, 10, 1, 0, 1}, {1, NONE, 0, 10, 1, 1, 0}, {2, 1, 2, 15, 0, 1, 0}};
        for (int wish = 0; wish < 3; wish++) {
            for (int what = 0; what < 7; what++) {
                due("wish " + wish + ", " + what, q.inQueue(wish, what), want[wish][what]);
            }
        }
        q.leave(0, true);
        due("not ready, as the other one left", q.inQueue(0, 4), 0);
        due("not fresh, as the one who left is tired", q.inQueue(0, 5), 0);
    }

    private static void promise11Key() {
        SingerQueue q = new SingerQueue();
        q.song(20, 30, 1);
        int[][] voices = {{20, 30}, {26, 36}, {27, 37}, {14, 24}, {13, 23}, {21, 60}, {0, 29}, {21, 30}, {18, 32}, {22, 60}, {0, 34}};
        int[] keys = {10, 16, NONE, 4, NONE, 11, 9, NONE, 10, 12, 10};
        for (int i = 0; i < voices.length; i++) {
            q.singer(voices[i][0], voices[i][1]);
            due("key of " + i, q.key(i, NONE, 0), keys[i]);
        }
        due("both at a time", q.key(8, 9, 0), 12);
        due("either order", q.key(9, 8, 0), 12);
        due("up to the other's highest", q.key(10, 9, 0), 12);
        due("no room for both", q.key(5, 6, 0), NONE);
        due("no key for either", q.key(1, 3, 0), NONE);
        due("singer NONE", q.key(NONE, 0, 0), NO_SUCH);
        for (int nobody : new int[] {-1, 11, LEAST, GREATEST}) {
            due("singer " + nobody, q.key(nobody, NONE, 0), NO_SUCH);
            due("other " + nobody, q.key(0, nobody, 0), NO_SUCH);
            due("both " + nobody, q.key(nobody, nobody, 0), NO_SUCH);
        }
        for (int nothing : new int[] {-1, 1, NONE, LEAST, GREATEST}) {
            due("song " + nothing, q.key(0, NONE, nothing), NO_SUCH);
            due("no such ahead of same", q.key(0, 0, nothing), NO_SUCH);
        }
        due("same", q.key(0, 0, 0), BAD_VALUE);
        due("same, and no key", q.key(2, 2, 0), BAD_VALUE);
        q.leave(1, true);
        due("one who has left has a key, too", q.key(1, NONE, 0), 16);
        promise11SmallestKey();
    }

    private static void promise11SmallestKey() {
        SingerQueue q = new SingerQueue();
        q.singer(0, 60);
        int key = 10;
        for (int low = 0; low <= 6; low++) {
            q.song(60 - low, 60, 1);
            due("a wide voice", q.key(0, NONE, low), key);
        }
        q.singer(33, 34);
        int[] songs = {33, 34, 35, 40, 41, 28, 27, 26};
        int[] keys = {10, 10, 9, 4, NONE, 15, 16, NONE};
        for (int i = 0; i < songs.length; i++) {
            q.song(songs[i], songs[i], 1);
            due("one tone " + songs[i], q.key(1, NONE, 7 + i), keys[i]);
        }
    }

    private static void promise12OfSong() {
        SingerQueue q = evening(2, 4);
        q.singer(50, 60);
        q.singer(26, 40);
        q.song(55, 58, 6);
        for (int nothing : new int[] {-1, 2, NONE, LEAST, GREATEST}) {
            due("song " + nothing, q.ofSong(nothing, 0), NO_SUCH);
            due("no such ahead of bad", q.ofSong(nothing, 5), NO_SUCH);
        }
        for (int what : new int[] {-1, 5, LEAST, GREATEST}) {
            due("song 0, " + what, q.ofSong(0, what), BAD_VALUE);
        }
        SingerQueue low = new SingerQueue();
        low.singer(0, 10);
        low.song(50, 60, 1);
        due("nobody has a key", low.ofSong(0, 3), 0);
        low.singer(50, 60);
        due("the other one has", low.ofSong(0, 3), 0b10);
        q.leave(1, true);
        q.wish(0, 3, 0);
        q.wish(0, NONE, 0);
        due("sung never", q.ofSong(0, 4), 0);
        q.sing(2);
        int[][] want = {{20, 30, 4, 0b1011, 2}, {55, 58, 6, 0b0111, 0}};
        for (int song = 0; song < 2; song++) {
            for (int what = 0; what < 5; what++) {
                due("song " + song + ", " + what, q.ofSong(song, what), want[song][what]);
            }
        }
    }

    private static void promise13Past() {
        SingerQueue q = evening(3, 2, 3);
        due("nothing sung", q.past(0, 0), NO_SUCH);
        q.wish(0, NONE, 0);
        q.wish(2, 1, 1);
        q.wish(0, NONE, 1);
        q.sing(3);
        turnWas(q, 0, 0, NONE, 1, 5);
        turnWas(q, 1, 2, 1, 1, 2);
        turnWas(q, 2, 0, NONE, 0, 0);
        for (int back : new int[] {-1, 3, LEAST, GREATEST, NONE}) {
            due("past " + back, q.past(back, 0), NO_SUCH);
            due("no such ahead of bad", q.past(back, 4), NO_SUCH);
        }
        for (int what : new int[] {-1, 4, LEAST, GREATEST}) {
            due("past 0, " + what, q.past(0, what), BAD_VALUE);
        }
        for (int i = 0; i < 9; i++) {
            q.wish(i & 1, NONE, 0);
        }
        q.sing(9);
        turnWas(q, 11, 0, NONE, 0, 0);
        due("12 back", q.past(12, 0), NO_SUCH);
        q.wish(2, NONE, 0);
        q.sing(1);
        turnWas(q, 0, 2, NONE, 0, 26);
        turnWas(q, 11, 2, 1, 1, 2);
        due("12 back", q.past(12, 0), NO_SUCH);
        due("turns sung", q.count(7), 13);
        q.undo();
        turnWas(q, 11, 0, NONE, 0, 0);
    }

    private static void promise14Count() {
        SingerQueue q = evening(3, 2, 3);
        q.wish(1, NONE, 1);
        q.wish(1, NONE, 0);
        q.wish(0, 2, 0);
        q.sing(1);
        q.leave(2, true);
        q.put(pack("0:"));
        int[] want = {3, 0b011, 2, 2, 1, 0, 3, 1, 0b010, 2, 6};
        for (int what = 0; what < want.length; what++) {
            due("count " + what, q.count(what), want[what]);
        }
        q.leave(2, false);
        due("next one is fresh", q.count(5), 1);
        due("ready ones", q.count(4), 2);
        for (int what : new int[] {-1, 11, NONE, LEAST, GREATEST}) {
            due("count " + what, q.count(what), BAD_VALUE);
        }
    }

    private static void promise15TurnOf() {
        SingerQueue q = evening(3, 2, 3, 4);
        due("no wish", q.turnOf(0, 0), NO_SUCH);
        q.wish(0, NONE, 0);
        q.sing(1);
        q.wish(0, NONE, 0);
        q.wish(1, NONE, 1);
        q.wish(1, NONE, 2);
        q.wish(2, NONE, 0);
        q.wish(0, 2, 1);
        // 1 at 2, 2 at 5, 0 at 7, 1 at 9, 0 with 2 at 13
        int[] turns = {2, 0, 3, 1, 4};
        int[] begins = {7, 2, 9, 5, 13};
        for (int wish = 0; wish < 5; wish++) {
            due("turn of " + wish, q.turnOf(wish, 0), turns[wish]);
            due("begin of " + wish, q.turnOf(wish, 1), begins[wish]);
        }
        for (int nothing : new int[] {-1, 5, NONE, LEAST, GREATEST}) {
            due("wish " + nothing, q.turnOf(nothing, 0), NO_SUCH);
            due("no such ahead of bad", q.turnOf(nothing, 2), NO_SUCH);
        }
        for (int what : new int[] {-1, 2, LEAST, GREATEST}) {
            due("turnOf 0, " + what, q.turnOf(0, what), BAD_VALUE);
        }
        q.leave(2, true);
        due("not ready", q.turnOf(4, 0), NONE);
        due("not ready", q.turnOf(3, 1), NONE);
        due("bad ahead of not ready", q.turnOf(4, 2), BAD_VALUE);
        due("begin without 2", q.turnOf(2, 1), 7);
        due("nothing changed", q.count(6), 2);
        due("nothing changed", q.count(3), 5);
        due("nothing changed", q.of(1, 3), 0);
        due("nothing changed", q.count(8), 1);
        promise15LongQueue();
        promise15TurnsAheadCount();
    }

    /** The turns that are looked ahead count, those of each singer. */
    private static void promise15TurnsAheadCount() {
        for (int singer = 0; singer < 12; singer++) {
            SingerQueue q = evening(12, 1);
            int second = (singer + 1) % 12;
            int third = (singer + 2) % 12;
            q.wish(singer, NONE, 0);
            q.wish(second, NONE, 0);
            q.wish(singer, NONE, 0);
            q.wish(third, NONE, 0);
            due("the second turn of " + singer, q.turnOf(2, 0), 3);
            due("the turn of " + third, q.turnOf(3, 0), 2);
        }
    }

    private static void promise15LongQueue() {
        SingerQueue q = evening(1, 9);
        for (int i = 0; i < 20; i++) {
            q.wish(0, NONE, 0);
        }
        due("the last of 20", q.turnOf(19, 0), 19);
        due("the last of 20", q.turnOf(19, 1), 171);
        due("the end of all", q.endOfAll(), 180);
    }

    private static void promise16EndOfAll() {
        SingerQueue q = evening(3, 2, 3, 9);
        due("nothing", q.endOfAll(), 0);
        q.wish(0, NONE, 0);
        q.wish(1, 2, 1);
        q.wish(1, NONE, 2);
        due("all are ready", q.endOfAll(), 14);
        q.leave(2, true);
        due("one is not ready", q.endOfAll(), 11);
        q.sing(1);
        due("one was sung", q.endOfAll(), 11);
        q.leave(1, true);
        due("none is ready", q.endOfAll(), 2);
        due("nothing changed", q.count(6), 2);
    }

    private static void promise17IfLeft() {
        SingerQueue q = evening(4, 2);
        due("no wishes", q.ifLeft(0), 0);
        q.wish(0, NONE, 0);
        q.wish(1, 0, 0);
        q.wish(1, NONE, 0);
        q.wish(2, 1, 0);
        for (int nobody : new int[] {-1, 4, NONE, LEAST, GREATEST}) {
            due("if left " + nobody, q.ifLeft(nobody), NO_SUCH);
        }
        int[] want = {2, 3, 1, 0};
        for (int singer = 0; singer < 4; singer++) {
            due("if left " + singer, q.ifLeft(singer), want[singer]);
        }
        q.leave(2, true);
        int[] then = {3, 3, 1, 1};
        for (int singer = 0; singer < 4; singer++) {
            due("if left " + singer + ", when 2 has", q.ifLeft(singer), then[singer]);
        }
        due("all but one are there still", q.count(1), 0b1011);
    }

    private static void promise18HeldUpBy() {
        SingerQueue q = evening(3, 2, 3, 9);
        due("no wish", q.heldUpBy(0, 0), NO_SUCH);
        q.wish(0, NONE, 1);
        due("alone", q.heldUpBy(0, 0), NONE);
        due("alone", q.heldUpBy(0, 1), NONE);
        due("bad ahead of alone", q.heldUpBy(0, 2), BAD_VALUE);
        q.wish(1, NONE, 1);
        q.wish(2, NONE, 0);
        due("of several the lowest", q.heldUpBy(2, 0), 0);
        due("minutes", q.heldUpBy(2, 1), 3);
        q.takeBack(0);
        q.wish(0, NONE, 2);
        q.wish(2, NONE, 0);
        // 1 at 0, 2 at 3, 0 at 5, 2 again at 14
        due("the longest one", q.heldUpBy(3, 0), 2);
        due("minutes", q.heldUpBy(3, 1), 9);
        for (int nothing : new int[] {-1, 4, NONE, LEAST, GREATEST}) {
            due("wish " + nothing, q.heldUpBy(nothing, 0), NO_SUCH);
            due("no such ahead of bad", q.heldUpBy(nothing, 2), NO_SUCH);
        }
        for (int what : new int[] {-1, 2, LEAST, GREATEST}) {
            due("heldUpBy 0, " + what, q.heldUpBy(0, what), BAD_VALUE);
        }
        q.leave(2, true);
        due("not ready", q.heldUpBy(3, 0), NONE);
        due("bad ahead of not ready", q.heldUpBy(3, 3), BAD_VALUE);
        due("nothing changed", q.count(6), 0);
        due("nothing changed", q.count(3), 4);
    }

    private static void promise18HeldUpByNobody() {
        SingerQueue q = evening(3, 2, 3, 9);
        q.wish(0, NONE, 0);
        q.wish(1, NONE, 0);
        due("the next one is held up by none", q.heldUpBy(0, 1), 0);
        due("the lowest of the others", q.heldUpBy(0, 0), 1);
        q.leave(1, true);
        due("the only ready one", q.heldUpBy(0, 1), 0);
        due("others are not ready, but are looked at", q.heldUpBy(0, 0), 1);

        SingerQueue late = evening(3, 2, 3, 9);
        late.wish(2, NONE, 0);
        late.sing(1);
        late.wish(2, NONE, 0);
        late.wish(1, NONE, 0);
        due("1 goes ahead, as 2 is tired", late.count(5), 1);
        late.wish(0, NONE, 2);
        // 1 at 2, 0 at 4 (fewest turns), 2 at 13; without 1: 0 at 2, 2 at 11; without 0: 1 at 2, 2 at 4
        due("begin", late.turnOf(0, 1), 13);
        due("holder", late.heldUpBy(0, 0), 2);
        due("minutes", late.heldUpBy(0, 1), 9);
    }

    /** A wish without which another one has its turn later: after it somebody tired is fresh again. */
    private static void promise18LaterWithout() {
        SingerQueue q = evening(3, 1, 9);
        q.wish(2, NONE, 0);
        q.wish(2, NONE, 0);
        q.sing(2);
        q.wish(0, NONE, 0);
        q.sing(1);
        q.wish(1, NONE, 0);
        q.wish(0, NONE, 0);
        q.wish(2, NONE, 1);
        due("1 goes ahead, as 0 is tired", q.turnOf(0, 1), 3);
        due("then 0, who sang less than 2", q.turnOf(1, 1), 4);
        // without 1 it is the turn of 2 at 3, and of 0 at 12
        due("the wish that changes nothing, not the one that helps", q.heldUpBy(1, 0), 2);
        due("minutes", q.heldUpBy(1, 1), 0);
        // 2 has its turn at 5; without 1 at 3, as 0 is tired; without 0 at 4
        due("2 is held up by 1, not by 0", q.heldUpBy(2, 0), 0);
        due("minutes", q.heldUpBy(2, 1), 2);
    }

    private static void promise19Together() {
        SingerQueue q = evening(2, 1, 1);
        q.singer(26, 60);
        q.singer(0, 35);
        q.song(50, 60, 1);
        q.song(0, 10, 1);
        due("all songs", q.together(0, 1), 4);
        due("one with 2", q.together(0, 2), 3);
        due("2 with one", q.together(2, 0), 3);
        due("2 with 3: neither", q.together(2, 3), 0);
        due("1 with 3", q.together(1, 3), 3);
        q.leave(3, true);
        due("1 with 3, who left", q.together(1, 3), 3);
        for (int nobody : new int[] {-1, 4, NONE, LEAST, GREATEST}) {
            due("together 0 " + nobody, q.together(0, nobody), NO_SUCH);
            due("together " + nobody + " 0", q.together(nobody, 0), NO_SUCH);
            due("together " + nobody + " twice", q.together(nobody, nobody), NO_SUCH);
        }
        due("same", q.together(2, 2), BAD_VALUE);
    }

    private static void promise20Put() {
        SingerQueue q = new SingerQueue();
        long[] bad = {0, 32, 127, 128, 255, 1, 0x3000, 0x300030L, 0x30303000L, 0x3030303030303020L, 0x2030303030303030L,
            0x7f30303030303030L, 0x8030303030303030L, 0x3000303030303030L, 0x0100000000000030L, 0x100000030L,
            Long.MIN_VALUE, Long.MAX_VALUE, -1L, 0xff303030L, 0x307f30L};
        for (long characters : bad) {
            due("put " + Long.toHexString(characters), q.put(characters), BAD_VALUE);
        }
        due("the pad is empty still", q.count(9), 0);
        due("least code", q.put(33), 1);
        due("greatest code", q.put(126), 2);
        due("eight", q.put(0x7e7e7e7e7e7e7e7eL), 10);
        due("put is no change", q.count(10), 0);
        q.wipe();
        due("put", q.put(pack("1")), 1);
        due("put", q.put(pack("0+2:1")), 6);
        due("put", q.put(pack("5;3:14;1")), 14);
        due("put", q.put(pack(":2")), 16);
        due("they stand in their order", q.fault(), NONE);
        for (int i = 16; i < 56; i += 8) {
            due("put eight", q.put(pack("00000000")), i + 8);
        }
        due("60 at most", q.put(pack("00000")), TOO_MANY);
        due("bad ahead of too many", q.put(0x2030303030303030L), BAD_VALUE);
        due("60", q.put(pack("0000")), 60);
        due("61", q.put(pack("0")), TOO_MANY);
        due("the pad is full", q.count(9), 60);
        promise20Characters();
    }

    private static void promise20Characters() {
        SingerQueue q = evening(12, 1, 2, 3, 4, 5);
        for (char c : "10+2:4;3+11:2".toCharArray()) {
            q.put(c);
        }
        due("read", q.read(), 2);
        wishIs(q, 0, 10, 2, 4);
        wishIs(q, 1, 3, 11, 2);
    }

    private static void promise21Wipe() {
        SingerQueue q = new SingerQueue();
        due("wipe nothing", q.wipe(), 0);
        q.put(pack("0:0"));
        due("wipe three", q.wipe(), 3);
        due("wipe again", q.wipe(), 0);
        due("the pad", q.count(9), 0);
        due("fault", q.fault(), 0);
        due("wipe is no change", q.count(10), 0);
        q.put(pack("x"));
        due("new text", q.fault(), 0);
        q.wipe();
        q.put(pack("1:1"));
        due("new text", q.fault(), NONE);
    }

    private static void promise22Fault() {
        due("empty", new SingerQueue().fault(), 0);
        String[] right = {"0:0", "9:9", "10:10", "11:15", "0+0:0", "11+10:14", "1:1;1:1", "5+6:7;8:9;0+1:11"};
        for (String text : right) {
            fault(text, NONE);
        }
        String[] ending = {"0", "1", "11", "0:", "0+", "0+1", "0+1:", "11+11:", "0:0;", "0:15;", "0:0;1", "0:0;1+", "0:0;1:"};
        for (String text : ending) {
            fault(text, text.length());
        }
        String[][] wrongs = {{"x", "0"}, {":", "0"}, {"+", "0"}, {";", "0"}, {"-1:0", "0"}, {"00:0", "1"}, {"01:0", "1"},
            {"12:0", "1"}, {"19:0", "1"}, {"20:0", "1"}, {"110:0", "2"}, {"100:0", "2"}, {"0;0", "1"}, {"0++1:0", "2"},
            {"0+:0", "2"}, {"0+12:0", "3"}, {"0+01:0", "3"}, {"0+1+2:0", "3"}, {"0+1;0", "3"}, {"0:16", "3"}, {"0:19", "3"},
            {"0:20", "3"}, {"0:00", "3"}, {"0:01", "3"}, {"0:150", "4"}, {"0:100", "4"}, {"0::0", "2"}, {"0:+", "2"},
            {"0:;", "2"}, {"0:0:0", "3"}, {"0:0+1", "3"}, {"0:0;;0:0", "4"}, {"0:0;x", "4"}, {"0:0;12:0", "5"},
            {"0:0,0:0", "3"}, {"0:/", "2"}, {"1/:0", "1"}, {"0:1A", "3"}, {"0:0;1:16;9", "7"}};
        for (String[] one : wrongs) {
            fault(one[0], Integer.parseInt(one[1]));
        }
        String fifteen = "0:0;0:0;0:0;0:0;0:0;0:0;0:0;0:0;0:0;0:0;0:0;0:0;0:0;0:0;0:0";
        fault(fifteen, NONE);
        fault(fifteen + "1", 59);
        fault(fifteen + ";", 60);
        fault(fifteen.substring(0, 56) + "0:15", NONE);
        fault(fifteen.substring(0, 56) + "0:16", 59);
        fault(fifteen.substring(0, 56) + "0+1:", 60);
        SingerQueue q = evening(1, 1);
        String[] before = {"1:1;1:1", "1+1:1;", "11:11;11:1", "11+11:11"};
        for (String text : before) {
            for (String then : new String[] {"1", "1:", "1+", "1:1;", "11"}) {
                write(q, text);
                q.wipe();
                write(q, then);
                due("fault of " + then + " after " + text, q.fault(), then.length());
                q.wipe();
            }
            write(q, text);
            q.wipe();
            write(q, "1:1");
            due("fault of 1:1 after " + text, q.fault(), NONE);
            q.wipe();
        }
        write(q, "3+3:9");
        due("who is there does not matter", q.fault(), NONE);
        due("fault is no change", q.count(10), 2);
    }

    private static void promise23Undo() {
        SingerQueue q = new SingerQueue();
        due("nothing to undo", q.undo(), NOT_POSSIBLE);
        for (int i = 0; i < 7; i++) {
            q.singer(i, 60);
            due("changes", q.count(10), Math.min(i + 1, 6));
        }
        for (int i = 5; i >= 0; i--) {
            due("undo", q.undo(), i);
            due("singers", q.count(0), i + 1);
            due("singers there", q.count(1), (1 << i + 1) - 1);
        }
        due("the oldest was dropped", q.undo(), NOT_POSSIBLE);
        due("singers", q.count(0), 1);
        q.singer(44, 55);
        due("a new one in the old place", q.of(1, 0), 44);
        due("errors record nothing", q.singer(2, 1), BAD_VALUE);
        due("changes", q.count(10), 1);
        q.put(pack("0:0"));
        q.save(0);
        due("changes", q.count(10), 1);
        due("undo", q.undo(), 0);
        due("the pad stays", q.count(9), 3);
        due("the slot stays", q.restore(0), 0);
        due("singers in the slot", q.count(0), 2);
        due("undo of restore", q.undo(), 0);
        due("singers", q.count(0), 1);
    }

    private static void promise23UndoEachChange() {
        SingerQueue q = evening(2, 3, 4);
        q.wish(0, NONE, 0);
        q.wish(1, NONE, 1);
        q.wish(0, 1, 1);
        due("sing", q.sing(2), 2);
        due("leave", q.leave(1, true), 1);
        due("undo leave", q.undo(), 5);
        due("there", q.count(1), 0b11);
        due("undo sing", q.undo(), 4);
        due("minutes", q.count(6), 0);
        due("turns", q.count(7), 0);
        due("tired", q.count(8), 0);
        due("turns of 1", q.of(1, 3), 0);
        due("minutes of 1", q.of(1, 6), 0);
        due("sung", q.ofSong(1, 4), 0);
        due("past", q.past(0, 0), NO_SUCH);
        wishIs(q, 0, 0, NONE, 0);
        wishIs(q, 1, 1, NONE, 1);
        wishIs(q, 2, 0, 1, 1);
        due("take back", q.takeBack(0), 2);
        due("undo take back", q.undo(), 4);
        wishIs(q, 0, 0, NONE, 0);
        due("undo wish", q.undo(), 3);
        due("wishes", q.count(3), 2);
        q.takeBack(0);
        q.takeBack(0);
        due("a sing that sings nothing", q.sing(1), 0);
        due("changes", q.count(10), 6);
        due("undo it", q.undo(), 5);
        due("nothing else", q.count(3), 0);
        q.undo();
        q.undo();
        due("undo wish", q.undo(), 2);
        due("undo wish", q.undo(), 1);
        due("undo song", q.undo(), 0);
        due("songs", q.count(2), 1);
        due("the length of the other one", q.ofSong(0, 2), 3);
        due("no more", q.undo(), NOT_POSSIBLE);
    }

    /** Who comes in the place of one whose coming is undone has nothing of him. */
    private static void promise23NewOnesAfterUndo() {
        SingerQueue q = new SingerQueue();
        q.singer(10, 20);
        q.song(10, 20, 5);
        q.wish(0, NONE, 0);
        q.sing(1);
        q.save(0);
        for (int i = 3; i >= 0; i--) {
            due("undo", q.undo(), i);
        }
        due("singer", q.singer(30, 40), 0);
        due("song", q.song(31, 39, 7), 0);
        due("turns", q.of(0, 3), 0);
        due("minutes", q.of(0, 6), 0);
        due("wishes", q.of(0, 5), 0);
        due("sung", q.ofSong(0, 4), 0);
        due("restore", q.restore(0), 0);
        voiceAndSong(q, 10, 20, 5);
        due("turns", q.of(0, 3), 1);
        due("minutes", q.of(0, 6), 5);
        due("sung", q.ofSong(0, 4), 1);
        due("undo restore", q.undo(), 2);
        due("lowest", q.of(0, 0), 30);
        due("length", q.ofSong(0, 2), 7);
        due("turns", q.of(0, 3), 0);
        due("restore", q.restore(0), 0);
        voiceAndSong(q, 10, 20, 5);
    }

    private static void voiceAndSong(SingerQueue q, int low, int high, int length) {
        due("lowest tone of the voice", q.of(0, 0), low);
        due("highest tone of the voice", q.of(0, 1), high);
        due("lowest tone of the song", q.ofSong(0, 0), low);
        due("highest tone of the song", q.ofSong(0, 1), high);
        due("length of the song", q.ofSong(0, 2), length);
    }

    private static void promise24Save() {
        SingerQueue q = evening(2, 3, 4);
        for (int slot : new int[] {-1, 2, NONE, LEAST, GREATEST}) {
            due("save " + slot, q.save(slot), BAD_VALUE);
        }
        due("save an empty queue", q.save(0), 0);
        q.wish(0, NONE, 0);
        q.wish(0, NONE, 0);
        due("save two wishes", q.save(1), 2);
        due("save is no change", q.count(10), 6);
        q.wish(1, NONE, 0);
        due("overwrite", q.save(0), 3);
        q.sing(20);
        due("restore", q.restore(0), 3);
        due("restore", q.restore(1), 2);
    }

    private static void promise25Restore() {
        SingerQueue q = evening(2, 3, 4);
        for (int slot : new int[] {-1, 2, NONE, LEAST, GREATEST}) {
            due("restore " + slot, q.restore(slot), BAD_VALUE);
        }
        due("nothing saved", q.restore(0), NOT_POSSIBLE);
        q.wish(0, NONE, 0);
        q.wish(0, 1, 1);
        q.sing(1);
        q.leave(0, true);
        due("save", q.save(1), 1);
        due("nothing saved there", q.restore(0), NOT_POSSIBLE);
        due("changes", q.count(10), 6);
        q.leave(0, false);
        q.sing(1);
        q.singer(5, 6);
        q.song(5, 6, 7);
        q.put(pack("1:1"));
        for (int i = 0; i < 2; i++) {
            due("restore", q.restore(1), 1);
            due("singers", q.count(0), 2);
            due("there", q.count(1), 0b10);
            due("songs", q.count(2), 2);
            due("minutes", q.count(6), 3);
            due("turns", q.count(7), 1);
            due("tired", q.count(8), 0b01);
            due("turns of 0", q.of(0, 3), 1);
            due("minutes of 0", q.of(0, 6), 3);
            due("sung", q.ofSong(1, 4), 0);
            turnWas(q, 0, 0, NONE, 0, 0);
            due("one turn", q.past(1, 0), NO_SUCH);
            wishIs(q, 0, 0, 1, 1);
            due("the pad stays", q.count(9), 3);
            due("restore is a change", q.count(10), 6);
            q.takeBack(0);
        }
        due("undo take back", q.undo(), 5);
        due("undo restore", q.undo(), 4);
        due("no wishes", q.count(3), 0);
        due("undo take back", q.undo(), 3);
        due("undo the first restore", q.undo(), 2);
        due("singers", q.count(0), 3);
        due("minutes", q.count(6), 7);
    }

    private static void constants() {
        int[] got = {SingerQueue.NO_SUCH, SingerQueue.BAD_VALUE, SingerQueue.BAD_TEXT, SingerQueue.TOO_MANY,
            SingerQueue.NOT_POSSIBLE, SingerQueue.NONE};
        for (int i = 0; i < got.length; i++) {
            due("constant " + i, got[i], -1 - i);
        }
    }
}
