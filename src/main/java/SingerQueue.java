/** A queue of singers who sing songs in keys that fit them; ../shared/DOC.md says what it promises. */
public final class SingerQueue {
    public static final int NO_SUCH = -1, BAD_VALUE = -2, BAD_TEXT = -3, TOO_MANY = -4, NOT_POSSIBLE = -5, NONE = -6;

    private static final int NO_ERROR = 0;
    private static final int MOST_SINGERS = 12;
    private static final int MOST_SONGS = 16;
    private static final int MOST_WISHES = 20;
    private static final int HIGHEST_TONE = 60;
    private static final int LONGEST_SONG = 9;
    private static final int GREATEST_KEY = 6;
    // A key is told as this number and itself, so that no key looks like NONE.
    private static final int KEY_ZERO = 10;
    private static final int MOST_TURNS_AT_ONCE = 20;
    private static final int TURNS_REMEMBERED = 12;
    private static final int STATES_KEPT = 6;
    private static final int SLOTS = 2;
    private static final int PAD_LENGTH = 60;
    private static final int CHARACTERS_AT_ONCE = 8;
    // A wish has three characters at least, and a semicolon stands between two.
    private static final int MOST_WISHES_ON_PAD = (PAD_LENGTH + 1) / 4;

    private final Evening evening;
    private final History history;
    private final Evening[] slots;
    private final boolean[] hasBeenSaved;
    private final Pad pad;
    private final PadReader padReader;
    private final Preview preview;

    public SingerQueue() {
        evening = new Evening();
        history = new History();
        slots = new Evening[SLOTS];
        for (int i = 0; i < SLOTS; i++) {
            slots[i] = new Evening();
        }
        hasBeenSaved = new boolean[SLOTS];
        pad = new Pad();
        padReader = new PadReader();
        preview = new Preview();
    }

    // ---- changes

    public int singer(int lowest, int highest) {
        if (!isToneRange(lowest, highest)) {
            return BAD_VALUE;
        }
        if (evening.singers.size >= MOST_SINGERS) {
            return TOO_MANY;
        }
        history.keep(evening);
        return evening.singers.add(lowest, highest);
    }

    public int song(int lowest, int highest, int length) {
        if (!isToneRange(lowest, highest) || !isBetween(length, 1, LONGEST_SONG)) {
            return BAD_VALUE;
        }
        if (evening.songs.size >= MOST_SONGS) {
            return TOO_MANY;
        }
        history.keep(evening);
        return evening.songs.add(lowest, highest, length);
    }

    public int leave(int singer, boolean hasLeft) {
        if (!evening.singers.has(singer)) {
            return NO_SUCH;
        }
        if (hasLeft != evening.singers.isThere(singer)) {
            return NOT_POSSIBLE;
        }
        history.keep(evening);
        evening.singers.setThere(singer, !hasLeft);
        return Integer.bitCount(evening.singers.there);
    }

    public int wish(int singer, int other, int song) {
        int error = evening.errorOfWish(singer, other, song, evening.wishes.size);
        if (error != NO_ERROR) {
            return error;
        }
        history.keep(evening);
        return evening.wishes.add(singer, other, song);
    }

    public int takeBack(int wish) {
        if (!evening.wishes.has(wish)) {
            return NO_SUCH;
        }
        history.keep(evening);
        evening.wishes.removeAt(wish);
        return evening.wishes.size;
    }

    public int sing(int turns) {
        if (!isBetween(turns, 1, MOST_TURNS_AT_ONCE)) {
            return BAD_VALUE;
        }
        history.keep(evening);
        for (int sung = 0; sung < turns; sung++) {
            int next = evening.nextWish();
            if (next == NONE) {
                return sung;
            }
            evening.singTurn(next);
        }
        return turns;
    }

    public int read() {
        if (padReader.faultOn(pad) != NONE) {
            return BAD_TEXT;
        }
        int error = errorOfWishesRead();
        if (error != NO_ERROR) {
            return error;
        }
        history.keep(evening);
        for (int i = 0; i < padReader.size; i++) {
            evening.wishes.add(padReader.first[i], padReader.other[i], padReader.song[i]);
        }
        pad.length = 0;
        return evening.wishes.size;
    }

    // ---- what there is

    public int of(int singer, int what) {
        Singers singers = evening.singers;
        if (!singers.has(singer)) {
            return NO_SUCH;
        }
        switch (what) {
            case 0: return singers.lowest[singer];
            case 1: return singers.highest[singer];
            case 2: return asNumber(singers.isThere(singer));
            case 3: return singers.turns[singer];
            case 4: return asNumber(isIn(singers.tired, singer));
            case 5: return evening.wishes.numberWith(singer);
            case 6: return singers.minutes[singer];
            default: return BAD_VALUE;
        }
    }

    public int inQueue(int wish, int what) {
        Wishes wishes = evening.wishes;
        if (!wishes.has(wish)) {
            return NO_SUCH;
        }
        switch (what) {
            case 0: return wishes.first[wish];
            case 1: return wishes.other[wish];
            case 2: return wishes.song[wish];
            case 3: return evening.keyAndTen(wishes.first[wish], wishes.other[wish], wishes.song[wish]);
            case 4: return asNumber(isIn(wishes.readyOnes(evening.singers.there), wish));
            case 5: return asNumber(isIn(wishes.freshOnes(evening.singers.tired), wish));
            case 6: return wishes.turnsFor(wish, evening.singers.turns);
            default: return BAD_VALUE;
        }
    }

    public int key(int singer, int other, int song) {
        int error = evening.errorOfNames(singer, other, song);
        if (error != NO_ERROR) {
            return error;
        }
        return evening.keyAndTen(singer, other, song);
    }

    public int ofSong(int song, int what) {
        Songs songs = evening.songs;
        if (!songs.has(song)) {
            return NO_SUCH;
        }
        switch (what) {
            case 0: return songs.lowest[song];
            case 1: return songs.highest[song];
            case 2: return songs.length[song];
            case 3: return evening.singersWithKey(song);
            case 4: return songs.timesSung[song];
            default: return BAD_VALUE;
        }
    }

    public int past(int back, int what) {
        PastTurns past = evening.past;
        if (!isBetween(back, 0, past.size - 1)) {
            return NO_SUCH;
        }
        switch (what) {
            case 0: return past.first[back];
            case 1: return past.other[back];
            case 2: return past.song[back];
            case 3: return past.begin[back];
            default: return BAD_VALUE;
        }
    }

    public int count(int what) {
        switch (what) {
            case 0: return evening.singers.size;
            case 1: return evening.singers.there;
            case 2: return evening.songs.size;
            case 3: return evening.wishes.size;
            case 4: return Integer.bitCount(evening.wishes.readyOnes(evening.singers.there));
            case 5: return evening.nextWish();
            case 6: return evening.minute;
            case 7: return evening.turnsSung;
            case 8: return evening.singers.tired;
            case 9: return pad.length;
            case 10: return history.size;
            default: return BAD_VALUE;
        }
    }

    // ---- what will be; nothing changes

    public int turnOf(int wish, int what) {
        if (!evening.wishes.has(wish)) {
            return NO_SUCH;
        }
        if (!isBetween(what, 0, 1)) {
            return BAD_VALUE;
        }
        if (!evening.isReady(wish)) {
            return NONE;
        }
        preview.lookAhead(evening, wish, NONE);
        return what == 0 ? preview.turnsAhead : preview.minute;
    }

    public int endOfAll() {
        int ready = evening.wishes.readyOnes(evening.singers.there);
        int end = evening.minute;
        for (int i = 0; i < evening.wishes.size; i++) {
            if (isIn(ready, i)) {
                end += evening.lengthOfWish(i);
            }
        }
        return end;
    }

    public int ifLeft(int singer) {
        if (!evening.singers.has(singer)) {
            return NO_SUCH;
        }
        int thereThen = evening.singers.there & ~(1 << singer);
        return evening.wishes.size - Integer.bitCount(evening.wishes.readyOnes(thereThen));
    }

    public int heldUpBy(int wish, int what) {
        if (!evening.wishes.has(wish)) {
            return NO_SUCH;
        }
        if (!isBetween(what, 0, 1)) {
            return BAD_VALUE;
        }
        if (!evening.isReady(wish) || evening.wishes.size == 1) {
            return NONE;
        }
        int begin = beginWithout(wish, NONE);
        int holder = NONE;
        int mostEarlier = 0;
        for (int i = 0; i < evening.wishes.size; i++) {
            if (i == wish) {
                continue;
            }
            int earlier = begin - beginWithout(wish, i);
            if (holder == NONE || earlier > mostEarlier) {
                holder = i;
                mostEarlier = earlier;
            }
        }
        return what == 0 ? holder : mostEarlier;
    }

    public int together(int one, int other) {
        if (!evening.singers.has(one) || !evening.singers.has(other)) {
            return NO_SUCH;
        }
        if (one == other) {
            return BAD_VALUE;
        }
        int fitting = 0;
        for (int i = 0; i < evening.songs.size; i++) {
            if (evening.keyAndTen(one, other, i) != NONE) {
                fitting++;
            }
        }
        return fitting;
    }

    // ---- texts

    public int put(long characters) {
        int number = Pad.numberOf(characters);
        if (number == BAD_VALUE) {
            return BAD_VALUE;
        }
        if (pad.length + number > PAD_LENGTH) {
            return TOO_MANY;
        }
        pad.append(characters, number);
        return pad.length;
    }

    public int wipe() {
        int length = pad.length;
        pad.length = 0;
        return length;
    }

    public int fault() {
        return padReader.faultOn(pad);
    }

    // ---- undo, saving

    public int undo() {
        if (history.size == 0) {
            return NOT_POSSIBLE;
        }
        history.takeBackInto(evening);
        return history.size;
    }

    public int save(int slot) {
        if (!isBetween(slot, 0, SLOTS - 1)) {
            return BAD_VALUE;
        }
        slots[slot].copyFrom(evening);
        hasBeenSaved[slot] = true;
        return evening.wishes.size;
    }

    public int restore(int slot) {
        if (!isBetween(slot, 0, SLOTS - 1)) {
            return BAD_VALUE;
        }
        if (!hasBeenSaved[slot]) {
            return NOT_POSSIBLE;
        }
        history.keep(evening);
        evening.copyFrom(slots[slot]);
        return evening.wishes.size;
    }

    // ---- what several calls use

    private static boolean isBetween(int value, int least, int greatest) {
        return value >= least && value <= greatest;
    }

    private static boolean isToneRange(int lowest, int highest) {
        return isBetween(lowest, 0, HIGHEST_TONE) && isBetween(highest, lowest, HIGHEST_TONE);
    }

    private static boolean isIn(int set, int member) {
        return (set >> member & 1) == 1;
    }

    private static int asNumber(boolean yes) {
        return yes ? 1 : 0;
    }

    /** Copies whole rows, so that the places behind the last one in use stay 0 for those who come later. */
    private static void copyRow(int[] from, int[] to) {
        System.arraycopy(from, 0, to, 0, Math.min(from.length, to.length));
    }

    /** The error of the first wish read that has one; each counts those ahead of it as made. */
    private int errorOfWishesRead() {
        for (int i = 0; i < padReader.size; i++) {
            int error = evening.errorOfWish(padReader.first[i], padReader.other[i], padReader.song[i],
                    evening.wishes.size + i);
            if (error != NO_ERROR) {
                return error;
            }
        }
        return NO_ERROR;
    }

    private int beginWithout(int wish, int missing) {
        preview.lookAhead(evening, wish, missing);
        return preview.minute;
    }

    /** The singers: their voices, who is there and tired, and what they sang so far. */
    private static final class Singers {
        int size;
        int there;
        int tired;
        final int[] lowest = new int[MOST_SINGERS];
        final int[] highest = new int[MOST_SINGERS];
        final int[] turns = new int[MOST_SINGERS];
        final int[] minutes = new int[MOST_SINGERS];

        boolean has(int singer) {
            return isBetween(singer, 0, size - 1);
        }

        boolean isThere(int singer) {
            return isIn(there, singer);
        }

        void setThere(int singer, boolean present) {
            int bit = 1 << singer;
            there = present ? there | bit : there & ~bit;
        }

        int add(int low, int high) {
            int number = size;
            lowest[number] = low;
            highest[number] = high;
            setThere(number, true);
            size++;
            return number;
        }

        void singTurn(int set, int length) {
            for (int i = 0; i < size; i++) {
                if (isIn(set, i)) {
                    turns[i]++;
                    minutes[i] += length;
                }
            }
            tired = set;
        }

        void copyFrom(Singers from) {
            size = from.size;
            there = from.there;
            tired = from.tired;
            copyRow(from.lowest, lowest);
            copyRow(from.highest, highest);
            copyRow(from.turns, turns);
            copyRow(from.minutes, minutes);
        }
    }

    /** The songs, and how often each was sung. */
    private static final class Songs {
        int size;
        final int[] lowest = new int[MOST_SONGS];
        final int[] highest = new int[MOST_SONGS];
        final int[] length = new int[MOST_SONGS];
        final int[] timesSung = new int[MOST_SONGS];

        boolean has(int song) {
            return isBetween(song, 0, size - 1);
        }

        int add(int low, int high, int minutes) {
            int number = size;
            lowest[number] = low;
            highest[number] = high;
            length[number] = minutes;
            size++;
            return number;
        }

        /** The key with the least size that lifts the song between two tones, and 10; NONE if none does. */
        int keyAndTenBetween(int low, int high, int song) {
            for (int keySize = 0; keySize <= GREATEST_KEY; keySize++) {
                if (fits(low, high, song, keySize)) {
                    return KEY_ZERO + keySize;
                }
                if (fits(low, high, song, -keySize)) {
                    return KEY_ZERO - keySize;
                }
            }
            return NONE;
        }

        boolean fits(int low, int high, int song, int shift) {
            return lowest[song] + shift >= low && highest[song] + shift <= high;
        }

        void copyFrom(Songs from) {
            size = from.size;
            copyRow(from.lowest, lowest);
            copyRow(from.highest, highest);
            copyRow(from.length, length);
            copyRow(from.timesSung, timesSung);
        }
    }

    /** The wishes in the queue, in the order in which they were made. Sets of wishes are bit masks, too. */
    private static final class Wishes {
        int size;
        final int[] first = new int[MOST_WISHES];
        final int[] other = new int[MOST_WISHES];
        final int[] song = new int[MOST_WISHES];

        boolean has(int wish) {
            return isBetween(wish, 0, size - 1);
        }

        int add(int singer, int otherSinger, int songWished) {
            int place = size;
            first[place] = singer;
            other[place] = otherSinger;
            song[place] = songWished;
            size++;
            return place;
        }

        void removeAt(int wish) {
            for (int i = wish; i < size - 1; i++) {
                first[i] = first[i + 1];
                other[i] = other[i + 1];
                song[i] = song[i + 1];
            }
            size--;
        }

        int singersOf(int wish) {
            int set = 1 << first[wish];
            return other[wish] == NONE ? set : set | 1 << other[wish];
        }

        int numberWith(int singer) {
            int number = 0;
            for (int i = 0; i < size; i++) {
                if (isIn(singersOf(i), singer)) {
                    number++;
                }
            }
            return number;
        }

        int readyOnes(int there) {
            return onesWithout(~there);
        }

        int freshOnes(int tired) {
            return onesWithout(tired);
        }

        int onesWithout(int singers) {
            int set = 0;
            for (int i = 0; i < size; i++) {
                if ((singersOf(i) & singers) == 0) {
                    set |= 1 << i;
                }
            }
            return set;
        }

        int turnsFor(int wish, int[] turns) {
            int ofFirst = turns[first[wish]];
            return other[wish] == NONE ? ofFirst : Math.max(ofFirst, turns[other[wish]]);
        }

        /** Whose turn it is among some wishes that are ready; NONE if there are none. */
        int nextAmong(int ready, int tired, int[] turns) {
            int next = fewestTurnsAmong(ready & freshOnes(tired), turns);
            return next != NONE ? next : fewestTurnsAmong(ready, turns);
        }

        int fewestTurnsAmong(int set, int[] turns) {
            int fewest = NONE;
            for (int i = 0; i < size; i++) {
                if (isIn(set, i) && (fewest == NONE || turnsFor(i, turns) < turnsFor(fewest, turns))) {
                    fewest = i;
                }
            }
            return fewest;
        }

        void copyFrom(Wishes from) {
            size = from.size;
            copyRow(from.first, first);
            copyRow(from.other, other);
            copyRow(from.song, song);
        }
    }

    /** The latest turns that were sung, the very latest one first. */
    private static final class PastTurns {
        int size;
        final int[] first = new int[TURNS_REMEMBERED];
        final int[] other = new int[TURNS_REMEMBERED];
        final int[] song = new int[TURNS_REMEMBERED];
        final int[] begin = new int[TURNS_REMEMBERED];

        void remember(int singer, int otherSinger, int songSung, int minute) {
            size = Math.min(size + 1, TURNS_REMEMBERED);
            for (int i = size - 1; i > 0; i--) {
                first[i] = first[i - 1];
                other[i] = other[i - 1];
                song[i] = song[i - 1];
                begin[i] = begin[i - 1];
            }
            first[0] = singer;
            other[0] = otherSinger;
            song[0] = songSung;
            begin[0] = minute;
        }

        void copyFrom(PastTurns from) {
            size = from.size;
            copyRow(from.first, first);
            copyRow(from.other, other);
            copyRow(from.song, song);
            copyRow(from.begin, begin);
        }
    }

    /** All that undo and restore bring back: everything except the pad, the history and the slots. */
    private static final class Evening {
        final Singers singers = new Singers();
        final Songs songs = new Songs();
        final Wishes wishes = new Wishes();
        final PastTurns past = new PastTurns();
        int minute;
        int turnsSung;

        /** NO_SUCH or BAD_VALUE, if such singers and song cannot be named together. */
        int errorOfNames(int singer, int other, int song) {
            if (!singers.has(singer) || other != NONE && !singers.has(other) || !songs.has(song)) {
                return NO_SUCH;
            }
            return singer == other ? BAD_VALUE : NO_ERROR;
        }

        int errorOfWish(int singer, int other, int song, int wishesAhead) {
            int error = errorOfNames(singer, other, song);
            if (error != NO_ERROR) {
                return error;
            }
            if (wishesAhead >= MOST_WISHES) {
                return TOO_MANY;
            }
            return keyAndTen(singer, other, song) == NONE ? NOT_POSSIBLE : NO_ERROR;
        }

        int keyAndTen(int singer, int other, int song) {
            int low = singers.lowest[singer];
            int high = singers.highest[singer];
            if (other != NONE) {
                low = Math.max(low, singers.lowest[other]);
                high = Math.min(high, singers.highest[other]);
            }
            return songs.keyAndTenBetween(low, high, song);
        }

        int singersWithKey(int song) {
            int set = 0;
            for (int i = 0; i < singers.size; i++) {
                if (keyAndTen(i, NONE, song) != NONE) {
                    set |= 1 << i;
                }
            }
            return set;
        }

        boolean isReady(int wish) {
            return isIn(wishes.readyOnes(singers.there), wish);
        }

        int lengthOfWish(int wish) {
            return songs.length[wishes.song[wish]];
        }

        int nextWish() {
            return wishes.nextAmong(wishes.readyOnes(singers.there), singers.tired, singers.turns);
        }

        void singTurn(int wish) {
            int length = lengthOfWish(wish);
            int song = wishes.song[wish];
            past.remember(wishes.first[wish], wishes.other[wish], song, minute);
            singers.singTurn(wishes.singersOf(wish), length);
            songs.timesSung[song]++;
            minute += length;
            turnsSung++;
            wishes.removeAt(wish);
        }

        void copyFrom(Evening from) {
            singers.copyFrom(from.singers);
            songs.copyFrom(from.songs);
            wishes.copyFrom(from.wishes);
            past.copyFrom(from.past);
            minute = from.minute;
            turnsSung = from.turnsSung;
        }
    }

    /** The states before the latest changes, in a ring, so that no change makes a new object. */
    private static final class History {
        final Evening[] states = new Evening[STATES_KEPT];
        int size;
        int place;

        History() {
            for (int i = 0; i < STATES_KEPT; i++) {
                states[i] = new Evening();
            }
        }

        void keep(Evening evening) {
            states[place].copyFrom(evening);
            place = place == STATES_KEPT - 1 ? 0 : place + 1;
            size = Math.min(size + 1, STATES_KEPT);
        }

        void takeBackInto(Evening evening) {
            place = place == 0 ? STATES_KEPT - 1 : place - 1;
            size--;
            evening.copyFrom(states[place]);
        }
    }

    /** The text from which wishes are read. */
    private static final class Pad {
        final char[] text = new char[PAD_LENGTH];
        int length;

        /** How many characters a number holds, BAD_VALUE if it holds none or is not well made. */
        static int numberOf(long characters) {
            int number = 0;
            long rest = characters;
            while (rest != 0 && number < CHARACTERS_AT_ONCE) {
                // A code of 0 with something above it is out of this range, too.
                if (!isBetween((int) (rest & 255), 33, 126)) {
                    return BAD_VALUE;
                }
                rest >>>= 8;
                number++;
            }
            return number == 0 ? BAD_VALUE : number;
        }

        void append(long characters, int number) {
            for (int i = number - 1; i >= 0; i--) {
                text[length] = (char) (characters >>> 8 * i & 255);
                length++;
            }
        }
    }

    /** Reads the wishes of the pad from left to right; a fault is always where it stops. */
    private static final class PadReader {
        final int[] first = new int[MOST_WISHES_ON_PAD];
        final int[] other = new int[MOST_WISHES_ON_PAD];
        final int[] song = new int[MOST_WISHES_ON_PAD];
        int size;
        int at;

        int faultOn(Pad pad) {
            at = 0;
            size = 0;
            for (int i = 0; i < MOST_WISHES_ON_PAD; i++) {
                if (!readWish(pad)) {
                    return at;
                }
                if (at == pad.length) {
                    return NONE;
                }
                if (!readSign(pad, ';')) {
                    return at;
                }
            }
            // A full pad may end with a semicolon behind as many wishes as it can hold.
            return at;
        }

        boolean readWish(Pad pad) {
            int singer = readNumber(pad, MOST_SINGERS - 1);
            if (singer == NONE) {
                return false;
            }
            int otherSinger = NONE;
            if (readSign(pad, '+')) {
                otherSinger = readNumber(pad, MOST_SINGERS - 1);
                if (otherSinger == NONE) {
                    return false;
                }
            }
            if (!readSign(pad, ':')) {
                return false;
            }
            int songRead = readNumber(pad, MOST_SONGS - 1);
            if (songRead == NONE) {
                return false;
            }
            first[size] = singer;
            other[size] = otherSinger;
            song[size] = songRead;
            size++;
            return true;
        }

        boolean readSign(Pad pad, char sign) {
            if (at >= pad.length || pad.text[at] != sign) {
                return false;
            }
            at++;
            return true;
        }

        /** Reads digits as long as the number stays right; a digit too many is left, and nothing else wants it. */
        int readNumber(Pad pad, int greatest) {
            int value = digitAt(pad);
            if (value == NONE) {
                return NONE;
            }
            at++;
            while (value != 0 && at < pad.length) {
                int digit = digitAt(pad);
                if (digit == NONE || value * 10 + digit > greatest) {
                    return value;
                }
                value = value * 10 + digit;
                at++;
            }
            return value;
        }

        int digitAt(Pad pad) {
            if (at >= pad.length || !isBetween(pad.text[at], '0', '9')) {
                return NONE;
            }
            return pad.text[at] - '0';
        }
    }

    /** Sings the evening on without changing it, to see when a wish has its turn. */
    private static final class Preview {
        final int[] turns = new int[MOST_SINGERS];
        int turnsAhead;
        int minute;

        /** The wish has to be ready; one other wish may be missing (or NONE). */
        void lookAhead(Evening evening, int wish, int missing) {
            Wishes wishes = evening.wishes;
            copyRow(evening.singers.turns, turns);
            int waiting = wishes.readyOnes(evening.singers.there);
            if (missing != NONE) {
                waiting &= ~(1 << missing);
            }
            int tired = evening.singers.tired;
            minute = evening.minute;
            for (turnsAhead = 0; turnsAhead < MOST_WISHES; turnsAhead++) {
                int next = wishes.nextAmong(waiting, tired, turns);
                if (next == wish || next == NONE) {
                    return;
                }
                waiting &= ~(1 << next);
                minute += evening.lengthOfWish(next);
                tired = wishes.singersOf(next);
                addTurn(tired);
            }
        }

        void addTurn(int singers) {
            for (int i = 0; i < MOST_SINGERS; i++) {
                if (isIn(singers, i)) {
                    turns[i]++;
                }
            }
        }
    }
}
