/** A SingerQueue that counts its calls, as nothing is promised of an object after its 512th call. */
final class Queue {
    static final int MOST_CALLS = 512;

    private final SingerQueue queue = new SingerQueue();
    private int calls = 0;

    private SingerQueue called() {
        calls++;
        if (calls > MOST_CALLS) {
            throw new IllegalStateException("the test makes more than " + MOST_CALLS + " calls");
        }
        return queue;
    }

    int calls() {
        return calls;
    }

    int singer(int lowest, int highest) {
        return called().singer(lowest, highest);
    }

    int song(int lowest, int highest, int length) {
        return called().song(lowest, highest, length);
    }

    int leave(int singer, boolean hasLeft) {
        return called().leave(singer, hasLeft);
    }

    int wish(int singer, int other, int song) {
        return called().wish(singer, other, song);
    }

    int takeBack(int wish) {
        return called().takeBack(wish);
    }

    int sing(int turns) {
        return called().sing(turns);
    }

    int read() {
        return called().read();
    }

    int of(int singer, int what) {
        return called().of(singer, what);
    }

    int inQueue(int wish, int what) {
        return called().inQueue(wish, what);
    }

    int key(int singer, int other, int song) {
        return called().key(singer, other, song);
    }

    int ofSong(int song, int what) {
        return called().ofSong(song, what);
    }

    int past(int back, int what) {
        return called().past(back, what);
    }

    int count(int what) {
        return called().count(what);
    }

    int turnOf(int wish, int what) {
        return called().turnOf(wish, what);
    }

    int endOfAll() {
        return called().endOfAll();
    }

    int ifLeft(int singer) {
        return called().ifLeft(singer);
    }

    int heldUpBy(int wish, int what) {
        return called().heldUpBy(wish, what);
    }

    int together(int one, int other) {
        return called().together(one, other);
    }

    int put(long characters) {
        return called().put(characters);
    }

    int wipe() {
        return called().wipe();
    }

    int fault() {
        return called().fault();
    }

    int undo() {
        return called().undo();
    }

    int save(int slot) {
        return called().save(slot);
    }

    int restore(int slot) {
        return called().restore(slot);
    }

    // ---- several calls at once

    /** One to eight characters as put() takes them. */
    static long packed(String text) {
        long characters = 0;
        for (char c : text.toCharArray()) {
            characters = characters << 8 | c;
        }
        return characters;
    }

    void write(String text) {
        for (int i = 0; i < text.length(); i += 8) {
            put(packed(text.substring(i, Math.min(text.length(), i + 8))));
        }
    }

    void singers(int number, int lowest, int highest) {
        for (int i = 0; i < number; i++) {
            singer(lowest, highest);
        }
    }

    void songs(int number, int lowest, int highest, int length) {
        for (int i = 0; i < number; i++) {
            song(lowest, highest, length);
        }
    }

    void wishes(int number, int singer, int other, int song) {
        for (int i = 0; i < number; i++) {
            wish(singer, other, song);
        }
    }
}
