/** Evenings that boundary tests begin with; each makes the same calls whenever it is made. */
final class Evenings {
    static final int NONE = -6;
    /** Sixty characters, fifteen wishes, no fault. */
    static final String FULL_PAD = "0:0;".repeat(14) + "0:15";

    private Evenings() {
    }

    static void nothing(Queue q) {
    }

    /** So many singers who can sing everything, and a song of each length given. */
    static Queue with(int singers, int... lengths) {
        Queue q = new Queue();
        fill(q, singers, lengths);
        return q;
    }

    static void fill(Queue q, int singers, int... lengths) {
        q.singers(singers, 0, 60);
        for (int length : lengths) {
            q.song(20, 30, length);
        }
    }

    /**
     * Something of everything: one who has left, duets, keys up and down, turns sung, one who is tired, a text that
     * ends too early, a slot in use and an empty one, six changes to undo.
     */
    static void busy(Queue q) {
        q.singer(10, 30);
        q.singer(20, 40);
        q.singer(0, 60);
        q.singer(0, 15);
        q.song(12, 28, 3);
        q.song(25, 35, 4);
        q.song(5, 10, 2);
        q.wish(0, NONE, 0);
        q.wish(1, NONE, 1);
        q.wish(0, 1, 1);
        q.wish(2, 0, 2);
        q.wish(3, NONE, 2);
        q.wish(2, NONE, 0);
        q.save(0);
        q.sing(2);
        q.leave(3, true);
        q.write("0+1:1;2:");
    }

    /** As many of everything as there can be: 12 singers, 16 songs, 20 wishes, 12 past turns, 60 characters. */
    static void full(Queue q) {
        q.singers(12, 0, 60);
        for (int i = 0; i < 16; i++) {
            q.song(20, 30, 1 + i % 9);
        }
        for (int i = 0; i < 20; i++) {
            q.wish(i % 12, NONE, i % 16);
        }
        q.save(0);
        q.sing(20);
        for (int i = 0; i < 20; i++) {
            q.wish(i % 12, i % 3 == 0 ? NONE : (i + 5) % 12, i % 16);
        }
        q.save(1);
        q.write(FULL_PAD);
    }
}
