/** Boundaries of a new object, singer, song and leave. */
final class Promises1To4 extends Checks {
    private Promises1To4() {
    }

    // ---- promise 1: a new object

    @Holds(promise = 1, says = "<Creates an evening without singers>, songs and wishes.")
    static void newEveningHasNoSingers() {
        Queue q = new Queue();
        due(q.count(0), 0);
        due(q.count(1), 0);
        due(q.count(8), 0);
        due(q.of(0, 0), NO_SUCH);
        due(q.ifLeft(0), NO_SUCH);
        due(q.together(0, 1), NO_SUCH);
    }

    @Holds(promise = 1, says = "Creates an evening without singers, <songs> and wishes.")
    static void newEveningHasNoSongs() {
        Queue q = new Queue();
        due(q.count(2), 0);
        due(q.ofSong(0, 0), NO_SUCH);
        q.singers(2, 0, 60);
        due(q.key(0, NONE, 0), NO_SUCH);
        due(q.together(0, 1), 0);
    }

    @Holds(promise = 1, says = "Creates an evening without singers, songs <and wishes>.")
    static void newEveningHasNoWishes() {
        Queue q = new Queue();
        due(q.count(3), 0);
        due(q.count(4), 0);
        due(q.count(5), NONE);
        due(q.inQueue(0, 0), NO_SUCH);
        due(q.turnOf(0, 0), NO_SUCH);
        due(q.heldUpBy(0, 0), NO_SUCH);
        due(q.endOfAll(), 0);
    }

    @Holds(promise = 1, says = "Creates an evening without singers, songs and wishes.")
    static void newEveningHasNothingElse() {
        Queue q = new Queue();
        due(q.count(6), 0);
        due(q.count(7), 0);
        due(q.count(9), 0);
        due(q.count(10), 0);
        due(q.past(0, 0), NO_SUCH);
        due(q.fault(), 0);
        due(q.wipe(), 0);
        due(q.undo(), NOT_POSSIBLE);
        due(q.restore(0), NOT_POSSIBLE);
        due(q.restore(1), NOT_POSSIBLE);
    }

    @Holds(promise = 1, says = "Creates an evening without singers, songs and wishes.")
    static void newEveningHasNothingOfAnotherOne() {
        Queue before = new Queue();
        Evenings.full(before);
        for (Looks look : Looks.ALL) {
            same(look, new Queue(), made(Evenings::nothing));
        }
        Queue q = new Queue();
        due(q.count(0), 0);
        due(q.count(9), 0);
        due(q.restore(0), NOT_POSSIBLE);
        due(before.count(0), 12);
    }

    @Holds(promise = 1, says = "The constants: `NO_SUCH = -1, BAD_VALUE = -2, BAD_TEXT = -3, TOO_MANY = -4, "
            + "NOT_POSSIBLE = -5, NONE = -6`: Error codes, and NONE: there is none.")
    static void constants() {
        due(SingerQueue.NO_SUCH, -1);
        due(SingerQueue.BAD_VALUE, -2);
        due(SingerQueue.BAD_TEXT, -3);
        due(SingerQueue.TOO_MANY, -4);
        due(SingerQueue.NOT_POSSIBLE, -5);
        due(SingerQueue.NONE, -6);
    }

    @Holds(promise = 1, says = "Time is in minutes, 0 at first.")
    static void timeIsZeroAtFirst() {
        Queue q = new Queue();
        due(q.count(6), 0);
        due(q.endOfAll(), 0);
        Evenings.fill(q, 1, 9);
        q.wish(0, NONE, 0);
        due(q.turnOf(0, 1), 0);
        q.sing(1);
        due(q.past(0, 3), 0);
    }

    @Holds(promise = 1, says = "An object is used for at most 512 calls after it has been made; what later calls answer is free.")
    static void the512thCall() {
        Queue q = Evenings.with(1, 9);
        q.wish(0, NONE, 0);
        while (q.calls() < Queue.MOST_CALLS - 3) {
            q.sing(1);
            q.wish(0, NONE, 0);
        }
        int turns = (q.calls() - 3) / 2;
        due(q.count(7), turns);
        due(q.of(0, 6), 9 * turns);
        while (q.calls() < Queue.MOST_CALLS - 1) {
            q.fault();
        }
        due(q.endOfAll(), 9 * turns + 9);
        due(q.calls(), 512);
    }

    // ---- promise 2: singer

    @Holds(promise = 2, says = "A singer comes, and is there.")
    static void aSingerIsThere() {
        Queue q = new Queue();
        for (int i = 0; i < 12; i++) {
            q.singer(0, 60);
            due(q.count(0), i + 1);
            due(q.of(i, 2), 1);
            due(q.count(1), (1 << i + 1) - 1);
        }
    }

    @Holds(promise = 2, says = "A singer comes, and is there.")
    static void aSingerIsThereThoughOthersHaveLeft() {
        Queue q = Evenings.with(2, 1);
        q.leave(0, true);
        q.leave(1, true);
        due(q.singer(0, 0), 2);
        due(q.of(2, 2), 1);
        due(q.count(1), 0b100);
    }

    @Holds(promise = 2, says = "This is a change.")
    static void singerIsAChange() {
        isChange(Evenings::nothing, q -> q.singer(0, 60));
        isChange(q -> q.singers(11, 0, 60), q -> q.singer(60, 60));
        isChange(Evenings::busy, q -> q.singer(1, 2));
    }

    @Holds(promise = 2, says = "`lowest`: <0> to 60")
    static void lowestToneIsFrom0() {
        Queue q = new Queue();
        due(q.singer(0, 60), 0);
        due(q.of(0, 0), 0);
        due(q.singer(1, 60), 1);
        due(q.of(1, 0), 1);
        refused(Evenings::busy, r -> r.singer(-1, 60), BAD_VALUE);
        refused(Evenings::busy, r -> r.singer(-1, -1), BAD_VALUE);
    }

    @Holds(promise = 2, says = "`lowest`: 0 <to 60>")
    static void lowestToneIsTo60() {
        Queue q = new Queue();
        due(q.singer(60, 60), 0);
        due(q.of(0, 0), 60);
        due(q.singer(59, 60), 1);
        refused(Evenings::busy, r -> r.singer(61, 60), BAD_VALUE);
        refused(Evenings::busy, r -> r.singer(61, 61), BAD_VALUE);
    }

    @Holds(promise = 2, says = "`lowest`: 0 to 60")
    static void lowestToneFarAway() {
        for (int lowest : outside(0, 60)) {
            refused(Evenings::nothing, q -> q.singer(lowest, 60), BAD_VALUE);
            refused(Evenings::busy, q -> q.singer(lowest, lowest), BAD_VALUE);
        }
    }

    @Holds(promise = 2, says = "`highest`: <lowest> to 60")
    static void highestToneIsFromLowest() {
        Queue q = new Queue();
        int[] tones = {0, 1, 30, 59, 60};
        for (int i = 0; i < tones.length; i++) {
            int tone = tones[i];
            due(q.singer(tone, tone), i);
            due(q.of(i, 0), tone);
            due(q.of(i, 1), tone);
            refused(Evenings::busy, r -> r.singer(tone, tone - 1), BAD_VALUE);
        }
    }

    @Holds(promise = 2, says = "`highest`: lowest <to 60>")
    static void highestToneIsTo60() {
        Queue q = new Queue();
        due(q.singer(0, 60), 0);
        due(q.of(0, 1), 60);
        due(q.singer(0, 59), 1);
        due(q.of(1, 1), 59);
        refused(Evenings::busy, r -> r.singer(0, 61), BAD_VALUE);
        refused(Evenings::busy, r -> r.singer(60, 61), BAD_VALUE);
    }

    @Holds(promise = 2, says = "`highest`: lowest to 60")
    static void highestToneFarAway() {
        for (int highest : outside(30, 60)) {
            refused(Evenings::busy, q -> q.singer(30, highest), BAD_VALUE);
        }
    }

    @Holds(promise = 2, says = "<Returns the number>; BAD_VALUE if an argument is out of range; TOO_MANY if there are 12.")
    static void singersAreNumberedFrom0To11() {
        Queue q = new Queue();
        for (int i = 0; i < 12; i++) {
            due(q.singer(i, 60 - i), i);
            due(q.of(i, 0), i);
            due(q.of(i, 1), 60 - i);
        }
        due(q.of(0, 0), 0);
    }

    @Holds(promise = 2, says = "Returns the number; <BAD_VALUE if an argument is out of range>; TOO_MANY if there are 12.")
    static void badVoices() {
        refused(Evenings::nothing, q -> q.singer(-1, 0), BAD_VALUE);
        refused(Evenings::nothing, q -> q.singer(0, -1), BAD_VALUE);
        refused(Evenings::nothing, q -> q.singer(61, 61), BAD_VALUE);
        refused(Evenings::nothing, q -> q.singer(1, 0), BAD_VALUE);
        refused(Evenings::nothing, q -> q.singer(-1, 61), BAD_VALUE);
        refused(Evenings::nothing, q -> q.singer(60, 59), BAD_VALUE);
    }

    @Holds(promise = 2, says = "Returns the number; BAD_VALUE if an argument is out of range; <TOO_MANY if there are 12>.")
    static void aThirteenthSinger() {
        due(made(q -> q.singers(11, 0, 60)).singer(0, 60), 11);
        refused(q -> q.singers(12, 0, 60), q -> q.singer(0, 60), TOO_MANY);
        refused(Evenings::full, q -> q.singer(0, 0), TOO_MANY);
    }

    @Holds(promise = 2, says = "Returns the number; BAD_VALUE if an argument is out of range; <TOO_MANY if there are 12>.")
    static void aThirteenthSingerWhenOthersHaveLeft() {
        refused(q -> {
            q.singers(12, 0, 60);
            for (int i = 0; i < 12; i++) {
                q.leave(i, true);
            }
        }, q -> q.singer(0, 60), TOO_MANY);
    }

    @Holds(promise = 2, says = "Returns the number; BAD_VALUE if an argument is out of range; <TOO_MANY if there are 12>.")
    static void aTwelfthSingerAgainAfterUndo() {
        Queue q = made(r -> r.singers(12, 0, 60));
        q.undo();
        due(q.singer(5, 6), 11);
        due(q.of(11, 0), 5);
        due(q.singer(5, 6), TOO_MANY);
    }

    @Holds(promise = 2, says = "There are up to 12 singers, numbered in the order in which they came.")
    static void twelveSingersInTheirOrder() {
        Queue q = new Queue();
        for (int i = 0; i < 12; i++) {
            due(q.count(0), i);
            due(q.singer(i, 30 + i), i);
        }
        due(q.count(0), 12);
        due(q.singer(0, 60), TOO_MANY);
        due(q.count(0), 12);
        for (int i = 0; i < 12; i++) {
            due(q.of(i, 0), i);
            due(q.of(i, 1), 30 + i);
        }
        due(q.of(12, 0), NO_SUCH);
    }

    @Holds(promise = 2, says = "A singer has a voice, <a lowest and a highest tone (0 to 60)>, is there, or has left, "
            + "and has sung so many turns (0 at first).")
    static void aVoiceKeepsItsTones() {
        Queue q = new Queue();
        int[][] voices = {{0, 0}, {0, 60}, {60, 60}, {30, 31}};
        for (int i = 0; i < voices.length; i++) {
            q.singer(voices[i][0], voices[i][1]);
        }
        for (int i = 0; i < voices.length; i++) {
            due(q.of(i, 0), voices[i][0]);
            due(q.of(i, 1), voices[i][1]);
        }
    }

    @Holds(promise = 2, says = "A singer has a voice, a lowest and a highest tone (0 to 60), is there, or has left, "
            + "<and has sung so many turns (0 at first)>.")
    static void aNewSingerHasSungNothing() {
        Queue q = Evenings.with(1, 5);
        q.wish(0, NONE, 0);
        q.sing(1);
        due(q.singer(0, 60), 1);
        due(q.of(1, 3), 0);
        due(q.of(1, 4), 0);
        due(q.of(1, 5), 0);
        due(q.of(1, 6), 0);
    }

    @Holds(promise = 2, says = "A method that fails returns one of the error codes NO_SUCH (-1), BAD_VALUE (-2), BAD_TEXT (-3), "
            + "TOO_MANY (-4) and NOT_POSSIBLE (-5); <it names its errors in the order in which they are checked, "
            + "and the first one that applies is returned>.")
    static void badVoiceAheadOfTooManySingers() {
        refused(Evenings::full, q -> q.singer(-1, 60), BAD_VALUE);
        refused(Evenings::full, q -> q.singer(61, 60), BAD_VALUE);
        refused(Evenings::full, q -> q.singer(0, 61), BAD_VALUE);
        refused(Evenings::full, q -> q.singer(1, 0), BAD_VALUE);
    }

    @Holds(promise = 2, says = "Everything is numbered from 0.")
    static void theFirstSingerIs0() {
        Queue q = new Queue();
        due(q.singer(0, 0), 0);
        due(q.of(0, 1), 0);
        due(q.of(1, 1), NO_SUCH);
    }

    @Holds(promise = 2, says = "A call that returns an error changes nothing.")
    static void aRefusedSingerChangesNothing() {
        refused(Evenings::nothing, q -> q.singer(61, 61), BAD_VALUE);
        refused(Evenings::busy, q -> q.singer(61, 61), BAD_VALUE);
        refused(Evenings::full, q -> q.singer(0, 60), TOO_MANY);
    }

    // ---- promise 3: song

    @Holds(promise = 3, says = "Adds a song.")
    static void aSongIsAdded() {
        Queue q = new Queue();
        for (int i = 0; i < 16; i++) {
            q.song(i, 60 - i, 1 + i % 9);
            due(q.count(2), i + 1);
        }
        for (int i = 0; i < 16; i++) {
            due(q.ofSong(i, 0), i);
            due(q.ofSong(i, 1), 60 - i);
            due(q.ofSong(i, 2), 1 + i % 9);
            due(q.ofSong(i, 4), 0);
        }
    }

    @Holds(promise = 3, says = "This is a change.")
    static void songIsAChange() {
        isChange(Evenings::nothing, q -> q.song(0, 60, 1));
        isChange(q -> q.songs(15, 0, 60, 1), q -> q.song(60, 60, 9));
        isChange(Evenings::busy, q -> q.song(1, 2, 3));
    }

    @Holds(promise = 3, says = "`lowest`: <0> to 60")
    static void lowestToneOfASongIsFrom0() {
        Queue q = new Queue();
        due(q.song(0, 60, 1), 0);
        due(q.ofSong(0, 0), 0);
        due(q.song(1, 60, 1), 1);
        due(q.ofSong(1, 0), 1);
        refused(Evenings::busy, r -> r.song(-1, 60, 1), BAD_VALUE);
        refused(Evenings::busy, r -> r.song(-1, -1, 1), BAD_VALUE);
    }

    @Holds(promise = 3, says = "`lowest`: 0 <to 60>")
    static void lowestToneOfASongIsTo60() {
        Queue q = new Queue();
        due(q.song(60, 60, 1), 0);
        due(q.ofSong(0, 0), 60);
        due(q.song(59, 60, 1), 1);
        refused(Evenings::busy, r -> r.song(61, 60, 1), BAD_VALUE);
        refused(Evenings::busy, r -> r.song(61, 61, 1), BAD_VALUE);
    }

    @Holds(promise = 3, says = "`lowest`: 0 to 60")
    static void lowestToneOfASongFarAway() {
        for (int lowest : outside(0, 60)) {
            refused(Evenings::nothing, q -> q.song(lowest, 60, 1), BAD_VALUE);
            refused(Evenings::busy, q -> q.song(lowest, lowest, 1), BAD_VALUE);
        }
    }

    @Holds(promise = 3, says = "`highest`: <lowest> to 60")
    static void highestToneOfASongIsFromLowest() {
        Queue q = new Queue();
        int[] tones = {0, 1, 30, 59, 60};
        for (int i = 0; i < tones.length; i++) {
            int tone = tones[i];
            due(q.song(tone, tone, 1), i);
            due(q.ofSong(i, 0), tone);
            due(q.ofSong(i, 1), tone);
            refused(Evenings::busy, r -> r.song(tone, tone - 1, 1), BAD_VALUE);
        }
    }

    @Holds(promise = 3, says = "`highest`: lowest <to 60>")
    static void highestToneOfASongIsTo60() {
        Queue q = new Queue();
        due(q.song(0, 60, 1), 0);
        due(q.ofSong(0, 1), 60);
        due(q.song(0, 59, 1), 1);
        due(q.ofSong(1, 1), 59);
        refused(Evenings::busy, r -> r.song(0, 61, 1), BAD_VALUE);
        refused(Evenings::busy, r -> r.song(60, 61, 1), BAD_VALUE);
    }

    @Holds(promise = 3, says = "`highest`: lowest to 60")
    static void highestToneOfASongFarAway() {
        for (int highest : outside(30, 60)) {
            refused(Evenings::busy, q -> q.song(30, highest, 1), BAD_VALUE);
        }
    }

    @Holds(promise = 3, says = "`length`: <1> to 9")
    static void lengthIsFrom1() {
        Queue q = new Queue();
        due(q.song(0, 60, 1), 0);
        due(q.ofSong(0, 2), 1);
        refused(Evenings::busy, r -> r.song(0, 60, 0), BAD_VALUE);
        refused(Evenings::busy, r -> r.song(0, 60, -1), BAD_VALUE);
    }

    @Holds(promise = 3, says = "`length`: 1 <to 9>")
    static void lengthIsTo9() {
        Queue q = new Queue();
        due(q.song(0, 60, 9), 0);
        due(q.ofSong(0, 2), 9);
        refused(Evenings::busy, r -> r.song(0, 60, 10), BAD_VALUE);
    }

    @Holds(promise = 3, says = "`length`: 1 to 9")
    static void lengthFarAway() {
        for (int length : outside(1, 9)) {
            refused(Evenings::busy, q -> q.song(0, 60, length), BAD_VALUE);
        }
    }

    @Holds(promise = 3, says = "<Returns its number>; BAD_VALUE if an argument is out of range; TOO_MANY if there are 16.")
    static void songsAreNumberedFrom0To15() {
        Queue q = new Queue();
        for (int i = 0; i < 16; i++) {
            due(q.song(0, i, 1), i);
        }
    }

    @Holds(promise = 3, says = "Returns its number; <BAD_VALUE if an argument is out of range>; TOO_MANY if there are 16.")
    static void badSongs() {
        refused(Evenings::nothing, q -> q.song(-1, 5, 1), BAD_VALUE);
        refused(Evenings::nothing, q -> q.song(0, 61, 1), BAD_VALUE);
        refused(Evenings::nothing, q -> q.song(5, 4, 1), BAD_VALUE);
        refused(Evenings::nothing, q -> q.song(0, 5, 0), BAD_VALUE);
        refused(Evenings::nothing, q -> q.song(0, 5, 10), BAD_VALUE);
        refused(Evenings::nothing, q -> q.song(-1, 61, 0), BAD_VALUE);
    }

    @Holds(promise = 3, says = "Returns its number; BAD_VALUE if an argument is out of range; <TOO_MANY if there are 16>.")
    static void aSeventeenthSong() {
        due(made(q -> q.songs(15, 0, 60, 1)).song(0, 60, 1), 15);
        refused(q -> q.songs(16, 0, 60, 1), q -> q.song(0, 60, 1), TOO_MANY);
        refused(Evenings::full, q -> q.song(0, 60, 9), TOO_MANY);
    }

    @Holds(promise = 3, says = "Returns its number; BAD_VALUE if an argument is out of range; <TOO_MANY if there are 16>.")
    static void aSixteenthSongAgainAfterUndo() {
        Queue q = made(r -> r.songs(16, 0, 60, 1));
        q.undo();
        due(q.song(7, 8, 9), 15);
        due(q.ofSong(15, 0), 7);
        due(q.song(7, 8, 9), TOO_MANY);
    }

    @Holds(promise = 3, says = "There are up to 16 songs, numbered in the order in which they were added.")
    static void sixteenSongsInTheirOrder() {
        Queue q = new Queue();
        for (int i = 0; i < 16; i++) {
            due(q.count(2), i);
            due(q.song(i, 30 + i, 9 - i % 9), i);
        }
        due(q.count(2), 16);
        due(q.song(0, 60, 1), TOO_MANY);
        due(q.count(2), 16);
        for (int i = 0; i < 16; i++) {
            due(q.ofSong(i, 0), i);
            due(q.ofSong(i, 1), 30 + i);
            due(q.ofSong(i, 2), 9 - i % 9);
        }
        due(q.ofSong(16, 0), NO_SUCH);
    }

    @Holds(promise = 3, says = "<A song has a lowest and a highest tone (0 to 60)>, and a length (1 to 9 minutes).")
    static void aSongKeepsItsTones() {
        Queue q = new Queue();
        int[][] songs = {{0, 0}, {0, 60}, {60, 60}, {30, 31}};
        for (int[] song : songs) {
            q.song(song[0], song[1], 1);
        }
        for (int i = 0; i < songs.length; i++) {
            due(q.ofSong(i, 0), songs[i][0]);
            due(q.ofSong(i, 1), songs[i][1]);
        }
    }

    @Holds(promise = 3, says = "A song has a lowest and a highest tone (0 to 60), <and a length (1 to 9 minutes)>.")
    static void aSongKeepsItsLength() {
        Queue q = new Queue();
        for (int length = 1; length <= 9; length++) {
            due(q.song(0, 60, length), length - 1);
            due(q.ofSong(length - 1, 2), length);
        }
        due(q.song(0, 60, 10), BAD_VALUE);
        due(q.song(0, 60, 0), BAD_VALUE);
        due(q.count(2), 9);
    }

    @Holds(promise = 3, says = "A method that fails returns one of the error codes NO_SUCH (-1), BAD_VALUE (-2), BAD_TEXT (-3), "
            + "TOO_MANY (-4) and NOT_POSSIBLE (-5); <it names its errors in the order in which they are checked, "
            + "and the first one that applies is returned>.")
    static void badSongAheadOfTooManySongs() {
        refused(Evenings::full, q -> q.song(-1, 60, 1), BAD_VALUE);
        refused(Evenings::full, q -> q.song(1, 0, 1), BAD_VALUE);
        refused(Evenings::full, q -> q.song(0, 61, 1), BAD_VALUE);
        refused(Evenings::full, q -> q.song(0, 60, 0), BAD_VALUE);
        refused(Evenings::full, q -> q.song(0, 60, 10), BAD_VALUE);
    }

    @Holds(promise = 3, says = "Everything is numbered from 0.")
    static void theFirstSongIs0() {
        Queue q = new Queue();
        due(q.song(3, 4, 5), 0);
        due(q.ofSong(0, 2), 5);
        due(q.ofSong(1, 2), NO_SUCH);
    }

    @Holds(promise = 3, says = "A call that returns an error changes nothing.")
    static void aRefusedSongChangesNothing() {
        refused(Evenings::nothing, q -> q.song(0, 60, 10), BAD_VALUE);
        refused(Evenings::busy, q -> q.song(0, 60, 10), BAD_VALUE);
        refused(Evenings::full, q -> q.song(0, 60, 1), TOO_MANY);
    }

    // ---- promise 4: leave

    @Holds(promise = 4, says = "<A singer leaves>, or comes back.")
    static void theFirstAndTheLastSingerLeave() {
        Queue q = Evenings.with(12, 1);
        q.leave(0, true);
        due(q.of(0, 2), 0);
        due(q.count(1), 0xffe);
        q.leave(11, true);
        due(q.of(11, 2), 0);
        due(q.count(1), 0x7fe);
        due(q.count(0), 12);
    }

    @Holds(promise = 4, says = "A singer leaves, <or comes back>.")
    static void theFirstAndTheLastSingerComeBack() {
        Queue q = Evenings.with(12, 1);
        for (int i = 0; i < 12; i++) {
            q.leave(i, true);
        }
        due(q.leave(11, false), 1);
        due(q.of(11, 2), 1);
        due(q.count(1), 0x800);
        due(q.leave(0, false), 2);
        due(q.of(0, 2), 1);
        due(q.count(1), 0x801);
    }

    @Holds(promise = 4, says = "A singer leaves, or comes back.")
    static void whoLeavesKeepsVoiceTurnsAndWishes() {
        Queue q = Evenings.with(2, 4);
        q.wish(0, NONE, 0);
        q.wish(0, 1, 0);
        q.sing(1);
        q.leave(0, true);
        int[] left = {0, 60, 0, 1, 1, 1, 4};
        for (int what = 0; what <= 6; what++) {
            due(q.of(0, what), left[what]);
        }
        q.leave(0, false);
        due(q.of(0, 2), 1);
        due(q.of(0, 3), 1);
        due(q.inQueue(0, 4), 1);
    }

    @Holds(promise = 4, says = "This is a change.")
    static void leaveIsAChange() {
        isChange(q -> q.singer(0, 60), q -> q.leave(0, true));
        isChange(Evenings::busy, q -> q.leave(1, true));
        isChange(Evenings::busy, q -> q.leave(3, false));
        isChange(Evenings::full, q -> q.leave(11, true));
    }

    @Holds(promise = 4, says = "<Returns how many singers are there then>; NO_SUCH if there is no such singer; "
            + "NOT_POSSIBLE if it is so already.")
    static void fromTwelveToNoneAndBack() {
        Queue q = Evenings.with(12, 1);
        for (int i = 0; i < 12; i++) {
            due(q.leave(i, true), 11 - i);
        }
        due(q.count(1), 0);
        for (int i = 0; i < 12; i++) {
            due(q.leave(i, false), i + 1);
        }
        due(q.count(1), 0xfff);
    }

    @Holds(promise = 4, says = "Returns how many singers are there then; <NO_SUCH if there is no such singer>; "
            + "NOT_POSSIBLE if it is so already.")
    static void nobodyLeaves() {
        refused(Evenings::nothing, q -> q.leave(0, true), NO_SUCH);
        refused(Evenings::nothing, q -> q.leave(0, false), NO_SUCH);
        for (int nobody : outside(0, 3)) {
            refused(Evenings::busy, q -> q.leave(nobody, true), NO_SUCH);
            refused(Evenings::busy, q -> q.leave(nobody, false), NO_SUCH);
        }
        for (int nobody : outside(0, 11)) {
            refused(Evenings::full, q -> q.leave(nobody, true), NO_SUCH);
        }
    }

    @Holds(promise = 4, says = "Returns how many singers are there then; NO_SUCH if there is no such singer; "
            + "<NOT_POSSIBLE if it is so already>.")
    static void whoHasLeftLeavesAgain() {
        refused(Evenings::busy, q -> q.leave(3, true), NOT_POSSIBLE);
        refused(r -> {
            Evenings.full(r);
            r.leave(0, true);
            r.leave(11, true);
        }, q -> q.leave(11, true), NOT_POSSIBLE);
    }

    @Holds(promise = 4, says = "Returns how many singers are there then; NO_SUCH if there is no such singer; "
            + "<NOT_POSSIBLE if it is so already>.")
    static void whoIsThereComesBack() {
        refused(q -> q.singer(0, 60), q -> q.leave(0, false), NOT_POSSIBLE);
        refused(Evenings::busy, q -> q.leave(0, false), NOT_POSSIBLE);
        refused(Evenings::full, q -> q.leave(11, false), NOT_POSSIBLE);
        refused(r -> {
            r.singer(0, 60);
            r.leave(0, true);
            r.leave(0, false);
        }, q -> q.leave(0, false), NOT_POSSIBLE);
    }

    @Holds(promise = 4, says = "A singer has a voice, a lowest and a highest tone (0 to 60), <is there, or has left>, "
            + "and has sung so many turns (0 at first).")
    static void thereOrLeft() {
        Queue q = Evenings.with(1, 1);
        due(q.of(0, 2), 1);
        due(q.leave(0, true), 0);
        due(q.of(0, 2), 0);
        due(q.leave(0, false), 1);
        due(q.of(0, 2), 1);
    }

    @Holds(promise = 4, says = "If somebody tired leaves, nobody changes by that.")
    static void aTiredOneWhoLeavesStaysTired() {
        Queue q = Evenings.with(3, 1);
        q.wish(0, 1, 0);
        q.sing(1);
        due(q.count(8), 0b011);
        q.leave(0, true);
        due(q.count(8), 0b011);
        due(q.of(0, 4), 1);
        due(q.of(1, 4), 1);
        due(q.of(2, 4), 0);
        q.leave(1, true);
        due(q.count(8), 0b011);
        q.leave(0, false);
        due(q.count(8), 0b011);
    }

    @Holds(promise = 4, says = "If somebody tired leaves, nobody changes by that.")
    static void wishesOfATiredOneWhoHasLeftAreNotFresh() {
        Queue q = Evenings.with(2, 1);
        q.wishes(2, 0, NONE, 0);
        q.sing(1);
        q.leave(0, true);
        due(q.inQueue(0, 5), 0);
        due(q.inQueue(0, 4), 0);
        q.leave(0, false);
        due(q.inQueue(0, 5), 0);
        due(q.inQueue(0, 4), 1);
    }

    @Holds(promise = 4, says = "A call that returns an error changes nothing.")
    static void aRefusedLeaveChangesNothing() {
        refused(Evenings::nothing, q -> q.leave(0, true), NO_SUCH);
        refused(Evenings::busy, q -> q.leave(4, false), NO_SUCH);
        refused(Evenings::busy, q -> q.leave(3, true), NOT_POSSIBLE);
        refused(Evenings::full, q -> q.leave(0, false), NOT_POSSIBLE);
    }

    @Holds(promise = 4, says = "A method that fails returns one of the error codes NO_SUCH (-1), BAD_VALUE (-2), BAD_TEXT (-3), "
            + "TOO_MANY (-4) and NOT_POSSIBLE (-5); <it names its errors in the order in which they are checked, "
            + "and the first one that applies is returned>.")
    static void nobodyAheadOfSoAlready() {
        // who is nobody is neither there nor has left
        refused(Evenings::busy, q -> q.leave(4, true), NO_SUCH);
        refused(Evenings::busy, q -> q.leave(4, false), NO_SUCH);
        refused(Evenings::full, q -> q.leave(12, true), NO_SUCH);
        refused(Evenings::full, q -> q.leave(12, false), NO_SUCH);
    }

    @Holds(promise = 4, says = "Ahead of the calls `singer`, `song`, `leave`, `wish`, `takeBack`, `sing`, `read` the interface says: "
            + "---- changes.")
    static void theSevenChanges() {
        Queue q = new Queue();
        due(q.singer(0, 60), 0);
        due(q.song(0, 60, 1), 0);
        due(q.leave(0, true), 0);
        due(q.wish(0, NONE, 0), 0);
        due(q.takeBack(0), 0);
        due(q.sing(1), 0);
        due(q.count(10), 6);
        due(q.undo(), 5);
        q.write("0:0");
        due(q.read(), 1);
        due(q.count(10), 6);
    }
}
