import java.util.function.Consumer;

/** Boundaries of of, inQueue, key, ofSong, past and count. */
final class Promises9To14 extends Checks {
    private Promises9To14() {
    }

    /** So many turns of one minute each, sung by 0 and 1 in turn with song 0 and 1. */
    private static Consumer<Queue> afterTurns(int number) {
        return q -> {
            Evenings.fill(q, 2, 1, 1);
            for (int i = 0; i < number; i++) {
                q.wish(i & 1, NONE, i & 1);
                q.sing(1);
            }
        };
    }

    /** Song 0 from tone 20 to tone 30, and a singer for each voice. */
    private static Queue voices(int... tones) {
        Queue q = new Queue();
        q.song(20, 30, 1);
        for (int i = 0; i < tones.length; i += 2) {
            q.singer(tones[i], tones[i + 1]);
        }
        return q;
    }

    // ---- promise 9: of

    @Holds(promise = 9, says = "`what`: <0 the lowest tone>, 1 the highest one, 2 whether the singer is there (1 or 0), 3 turns sung, "
            + "4 whether tired (1 or 0), 5 wishes in the queue, 6 the minutes that the songs of all turns sung had, together")
    static void ofTheLowestTone() {
        Queue q = voices(0, 60, 60, 60, 1, 2, 59, 60);
        int[] lowest = {0, 60, 1, 59};
        for (int i = 0; i < 4; i++) {
            due(q.of(i, 0), lowest[i]);
        }
    }

    @Holds(promise = 9, says = "`what`: 0 the lowest tone, <1 the highest one>, 2 whether the singer is there (1 or 0), 3 turns sung, "
            + "4 whether tired (1 or 0), 5 wishes in the queue, 6 the minutes that the songs of all turns sung had, together")
    static void ofTheHighestTone() {
        Queue q = voices(0, 60, 0, 0, 1, 2, 58, 59);
        int[] highest = {60, 0, 2, 59};
        for (int i = 0; i < 4; i++) {
            due(q.of(i, 1), highest[i]);
        }
    }

    @Holds(promise = 9, says = "`what`: 0 the lowest tone, 1 the highest one, <2 whether the singer is there (1 or 0)>, 3 turns sung, "
            + "4 whether tired (1 or 0), 5 wishes in the queue, 6 the minutes that the songs of all turns sung had, together")
    static void ofWhetherThere() {
        Queue q = Evenings.with(12, 1);
        for (int i = 0; i < 12; i++) {
            due(q.of(i, 2), 1);
            q.leave(i, true);
            due(q.of(i, 2), 0);
        }
        q.leave(0, false);
        due(q.of(0, 2), 1);
        due(q.of(1, 2), 0);
    }

    @Holds(promise = 9, says = "`what`: 0 the lowest tone, 1 the highest one, 2 whether the singer is there (1 or 0), <3 turns sung>, "
            + "4 whether tired (1 or 0), 5 wishes in the queue, 6 the minutes that the songs of all turns sung had, together")
    static void ofTurnsSung() {
        Queue q = Evenings.with(3, 1);
        due(q.of(0, 3), 0);
        for (int i = 1; i <= 3; i++) {
            q.wishes(20, 0, 2, 0);
            due(q.of(0, 3), 20 * i - 20);
            q.sing(20);
            due(q.of(0, 3), 20 * i);
            due(q.of(1, 3), 0);
            due(q.of(2, 3), 20 * i);
        }
    }

    @Holds(promise = 9, says = "`what`: 0 the lowest tone, 1 the highest one, 2 whether the singer is there (1 or 0), 3 turns sung, "
            + "<4 whether tired (1 or 0)>, 5 wishes in the queue, 6 the minutes that the songs of all turns sung had, together")
    static void ofWhetherTired() {
        Queue q = Evenings.with(12, 1);
        due(q.of(0, 4), 0);
        q.wish(11, 10, 0);
        q.wish(0, NONE, 0);
        q.sing(1);
        due(q.of(11, 4), 1);
        due(q.of(10, 4), 1);
        due(q.of(9, 4), 0);
        q.sing(1);
        due(q.of(0, 4), 1);
        due(q.of(11, 4), 0);
        due(q.of(10, 4), 0);
    }

    @Holds(promise = 9, says = "`what`: 0 the lowest tone, 1 the highest one, 2 whether the singer is there (1 or 0), 3 turns sung, "
            + "4 whether tired (1 or 0), <5 wishes in the queue>, 6 the minutes that the songs of all turns sung had, together")
    static void ofWishesInTheQueue() {
        Queue q = Evenings.with(4, 1);
        for (int i = 0; i < 20; i++) {
            due(q.of(0, 5), i);
            due(q.of(1, 5), i / 2);
            q.wish(i % 2 == 0 ? 0 : 1, i % 2 == 0 ? NONE : 0, 0);
        }
        due(q.of(0, 5), 20);
        due(q.of(1, 5), 10);
        due(q.of(2, 5), 0);
        q.leave(0, true);
        due(q.of(0, 5), 20);
        q.takeBack(19);
        due(q.of(0, 5), 19);
        due(q.of(1, 5), 9);
    }

    @Holds(promise = 9, says = "<`what`>: 0 the lowest tone, 1 the highest one, 2 whether the singer is there (1 or 0), 3 turns sung, "
            + "4 whether tired (1 or 0), 5 wishes in the queue, <6 the minutes that the songs of all turns sung had, together>")
    static void ofMinutesSung() {
        Queue q = Evenings.with(3, 1, 9);
        due(q.of(0, 6), 0);
        for (int i = 1; i <= 3; i++) {
            q.wish(0, NONE, 0);
            q.wishes(19, 1, 0, 1);
            q.sing(20);
            // more turns than those that are remembered
            due(q.of(0, 6), 172 * i);
            due(q.of(1, 6), 171 * i);
            due(q.of(2, 6), 0);
        }
    }

    @Holds(promise = 9, says = "<Returns the number; NO_SUCH if there is no such singer>; BAD_VALUE if what is out of range.")
    static void ofNobody() {
        for (int what = 0; what <= 6; what++) {
            int asked = what;
            refused(Evenings::nothing, q -> q.of(0, asked), NO_SUCH);
            refused(Evenings::busy, q -> q.of(4, asked), NO_SUCH);
            refused(Evenings::busy, q -> q.of(-1, asked), NO_SUCH);
            refused(Evenings::full, q -> q.of(12, asked), NO_SUCH);
        }
        for (int nobody : outside(0, 3)) {
            refused(Evenings::busy, q -> q.of(nobody, 0), NO_SUCH);
        }
        for (int nobody : outside(0, 11)) {
            refused(Evenings::full, q -> q.of(nobody, 3), NO_SUCH);
        }
    }

    @Holds(promise = 9, says = "Returns the number; NO_SUCH if there is no such singer; <BAD_VALUE if what is out of range>.")
    static void ofNothingKnown() {
        tells(Evenings::busy, q -> q.of(0, 0), 10);
        tells(Evenings::busy, q -> q.of(0, 6), 3);
        for (int what : outside(0, 6)) {
            refused(Evenings::busy, q -> q.of(0, what), BAD_VALUE);
            refused(Evenings::full, q -> q.of(11, what), BAD_VALUE);
        }
    }

    @Holds(promise = 9, says = "A method that fails returns one of the error codes NO_SUCH (-1), BAD_VALUE (-2), BAD_TEXT (-3), "
            + "TOO_MANY (-4) and NOT_POSSIBLE (-5); <it names its errors in the order in which they are checked, "
            + "and the first one that applies is returned>.")
    static void ofNobodyAheadOfNothingKnown() {
        refused(Evenings::nothing, q -> q.of(0, 7), NO_SUCH);
        refused(Evenings::busy, q -> q.of(4, -1), NO_SUCH);
        refused(Evenings::busy, q -> q.of(-1, 7), NO_SUCH);
    }

    @Holds(promise = 9, says = "Returns something about a singer.")
    static void ofChangesNothing() {
        int[] told = {10, 30, 1, 1, 0, 2, 3};
        for (int what = 0; what <= 6; what++) {
            int asked = what;
            tells(Evenings::busy, q -> q.of(0, asked), told[what]);
        }
    }

    @Holds(promise = 9, says = "A singer has a voice, a lowest and a highest tone (0 to 60), is there, or has left, "
            + "and has sung so many turns (0 at first).")
    static void ofANewSinger() {
        Queue q = voices(0, 60);
        int[] told = {0, 60, 1, 0, 0, 0, 0};
        for (int what = 0; what <= 6; what++) {
            due(q.of(0, what), told[what]);
        }
    }

    @Holds(promise = 9, says = "<The singers of the latest turn are tired>: a wish is fresh if none of its singers is tired.")
    static void ofNobodyTiredAheadOfTheFirstTurn() {
        Queue q = Evenings.with(12, 1);
        for (int i = 0; i < 12; i++) {
            due(q.of(i, 4), 0);
        }
    }

    @Holds(promise = 9, says = "A call that returns an error changes nothing.")
    static void aRefusedOfChangesNothing() {
        refused(Evenings::nothing, q -> q.of(0, 0), NO_SUCH);
        refused(Evenings::busy, q -> q.of(0, 7), BAD_VALUE);
        refused(Evenings::full, q -> q.of(12, 0), NO_SUCH);
    }

    // ---- promise 10: inQueue

    @Holds(promise = 10, says = "`what`: <0 the first singer>, 1 the other one (NONE), 2 the song, 3 its key, and 10, 4 whether it is ready, "
            + "5 whether it is fresh (1 or 0), 6 the turns that count for it (see above)")
    static void inQueueTheFirstSinger() {
        Queue q = Evenings.with(12, 1);
        for (int i = 0; i < 12; i++) {
            q.wish(i, i == 11 ? 0 : 11, 0);
            due(q.inQueue(i, 0), i);
        }
    }

    @Holds(promise = 10, says = "`what`: 0 the first singer, <1 the other one (NONE)>, 2 the song, 3 its key, and 10, 4 whether it is ready, "
            + "5 whether it is fresh (1 or 0), 6 the turns that count for it (see above)")
    static void inQueueTheOtherSinger() {
        Queue q = Evenings.with(12, 1);
        for (int i = 0; i < 12; i++) {
            q.wish(i == 11 ? 0 : 11, i, 0);
            due(q.inQueue(i, 1), i);
        }
        q.wish(3, NONE, 0);
        due(q.inQueue(12, 1), NONE);
        due(made(r -> {
            Evenings.fill(r, 1, 1);
            r.wish(0, NONE, 0);
        }).inQueue(0, 1), NONE);
    }

    @Holds(promise = 10, says = "`what`: 0 the first singer, 1 the other one (NONE), <2 the song>, 3 its key, and 10, 4 whether it is ready, "
            + "5 whether it is fresh (1 or 0), 6 the turns that count for it (see above)")
    static void inQueueTheSong() {
        Queue q = new Queue();
        q.singer(0, 60);
        q.songs(16, 0, 60, 1);
        for (int i = 0; i < 16; i++) {
            q.wish(0, NONE, 15 - i);
            due(q.inQueue(i, 2), 15 - i);
        }
    }

    @Holds(promise = 10, says = "`what`: 0 the first singer, 1 the other one (NONE), 2 the song, <3 its key, and 10>, 4 whether it is ready, "
            + "5 whether it is fresh (1 or 0), 6 the turns that count for it (see above)")
    static void inQueueTheKey() {
        Queue q = voices(26, 36, 14, 24, 20, 30, 21, 31, 19, 29, 0, 60);
        int[] keys = {16, 4, 10, 11, 9, 10};
        for (int i = 0; i < keys.length; i++) {
            q.wish(i, NONE, 0);
            due(q.inQueue(i, 3), keys[i]);
        }
        q.wish(5, 0, 0);
        due(q.inQueue(6, 3), 16);
        q.wish(1, 5, 0);
        due(q.inQueue(7, 3), 4);
    }

    @Holds(promise = 10, says = "`what`: 0 the first singer, 1 the other one (NONE), 2 the song, 3 its key, and 10, <4 whether it is ready>, "
            + "5 whether it is fresh <(1 or 0)>, 6 the turns that count for it (see above)")
    static void inQueueWhetherReady() {
        Queue q = Evenings.with(12, 1);
        q.wish(0, NONE, 0);
        q.wish(11, 0, 0);
        q.wish(0, 11, 0);
        q.leave(11, true);
        due(q.inQueue(0, 4), 1);
        due(q.inQueue(1, 4), 0);
        due(q.inQueue(2, 4), 0);
        q.leave(0, true);
        due(q.inQueue(0, 4), 0);
        due(q.inQueue(1, 4), 0);
        q.leave(11, false);
        due(q.inQueue(1, 4), 0);
        q.leave(0, false);
        due(q.inQueue(1, 4), 1);
        due(q.inQueue(2, 4), 1);
    }

    @Holds(promise = 10, says = "`what`: 0 the first singer, 1 the other one (NONE), 2 the song, 3 its key, and 10, 4 whether it is ready, "
            + "<5 whether it is fresh (1 or 0)>, 6 the turns that count for it (see above)")
    static void inQueueWhetherFresh() {
        Queue q = Evenings.with(12, 1);
        q.wish(11, NONE, 0);
        due(q.inQueue(0, 5), 1);
        q.sing(1);
        q.wish(11, NONE, 0);
        q.wish(0, 11, 0);
        q.wish(11, 0, 0);
        q.wish(0, NONE, 0);
        due(q.inQueue(0, 5), 0);
        due(q.inQueue(1, 5), 0);
        due(q.inQueue(2, 5), 0);
        due(q.inQueue(3, 5), 1);
        q.sing(1);
        due(q.past(0, 0), 0);
        due(q.inQueue(0, 5), 1);
        due(q.inQueue(1, 5), 0);
        due(q.inQueue(2, 5), 0);
    }

    @Holds(promise = 10, says = "<`what`>: 0 the first singer, 1 the other one (NONE), 2 the song, 3 its key, and 10, 4 whether it is ready, "
            + "5 whether it is fresh (1 or 0), <6 the turns that count for it (see above)>")
    static void inQueueTheTurnsThatCount() {
        Queue q = Evenings.with(3, 1);
        q.wishes(20, 0, NONE, 0);
        q.sing(20);
        q.wish(1, NONE, 0);
        q.sing(1);
        int[][] wishes = {{0, NONE, 20}, {1, NONE, 1}, {2, NONE, 0}, {0, 1, 20}, {1, 0, 20}, {1, 2, 1}, {2, 1, 1}};
        for (int i = 0; i < wishes.length; i++) {
            q.wish(wishes[i][0], wishes[i][1], 0);
            due(q.inQueue(i, 6), wishes[i][2]);
        }
    }

    @Holds(promise = 10, says = "<Returns the number; NO_SUCH if there is no such wish>; BAD_VALUE if what is out of range.")
    static void inQueueNoSuchWish() {
        for (int what = 0; what <= 6; what++) {
            int asked = what;
            refused(Evenings::nothing, q -> q.inQueue(0, asked), NO_SUCH);
            refused(Evenings::busy, q -> q.inQueue(4, asked), NO_SUCH);
            refused(Evenings::full, q -> q.inQueue(20, asked), NO_SUCH);
        }
        for (int nothing : outside(0, 3)) {
            refused(Evenings::busy, q -> q.inQueue(nothing, 0), NO_SUCH);
        }
        for (int nothing : outside(0, 19)) {
            refused(Evenings::full, q -> q.inQueue(nothing, 4), NO_SUCH);
        }
    }

    @Holds(promise = 10, says = "Returns the number; NO_SUCH if there is no such wish; <BAD_VALUE if what is out of range>.")
    static void inQueueNothingKnown() {
        for (int what : outside(0, 6)) {
            refused(Evenings::busy, q -> q.inQueue(0, what), BAD_VALUE);
            refused(Evenings::full, q -> q.inQueue(19, what), BAD_VALUE);
        }
    }

    @Holds(promise = 10, says = "A method that fails returns one of the error codes NO_SUCH (-1), BAD_VALUE (-2), BAD_TEXT (-3), "
            + "TOO_MANY (-4) and NOT_POSSIBLE (-5); <it names its errors in the order in which they are checked, "
            + "and the first one that applies is returned>.")
    static void inQueueNoSuchWishAheadOfNothingKnown() {
        refused(Evenings::nothing, q -> q.inQueue(0, 7), NO_SUCH);
        refused(Evenings::busy, q -> q.inQueue(4, -1), NO_SUCH);
        refused(Evenings::full, q -> q.inQueue(20, 7), NO_SUCH);
    }

    @Holds(promise = 10, says = "Returns something about a wish.")
    static void inQueueChangesNothing() {
        int[][] told = {{0, 1, 1, 5, 1, 0, 1}, {2, 0, 2, 15, 1, 1, 1}, {3, NONE, 2, 10, 0, 1, 0}, {2, NONE, 0, 10, 1, 1, 0}};
        for (int wish = 0; wish < told.length; wish++) {
            for (int what = 0; what <= 6; what++) {
                int place = wish;
                int asked = what;
                tells(Evenings::busy, q -> q.inQueue(place, asked), told[wish][what]);
            }
        }
    }

    @Holds(promise = 10, says = "A song can be shifted by a key, -6 to 6: all of its tones become so much higher.")
    static void inQueueKeysFromMinus6To6() {
        Queue q = new Queue();
        q.singer(30, 30);
        for (int tone = 24; tone <= 36; tone++) {
            q.song(tone, tone, 1);
            q.wish(0, NONE, tone - 24);
            due(q.inQueue(tone - 24, 3), 30 - tone + 10);
        }
    }

    @Holds(promise = 10, says = "The key of a song for one or two singers is the one that fits all of them with the least size; "
            + "<of two of a size the one that is not below 0>; there is none if none fits.")
    static void inQueueNoKeyBelow0IfNoneIsSmaller() {
        Queue q = voices(0, 60, 19, 31);
        q.wish(0, NONE, 0);
        q.wish(1, NONE, 0);
        q.wish(0, 1, 0);
        due(q.inQueue(0, 3), 10);
        due(q.inQueue(1, 3), 10);
        due(q.inQueue(2, 3), 10);
    }

    @Holds(promise = 10, says = "A wish is <one singer, or two different ones> (a duet), and a song, for which they have a key.")
    static void inQueueOneOrTwo() {
        Queue q = Evenings.with(2, 1);
        q.wish(1, NONE, 0);
        q.wish(1, 0, 0);
        wishIs(q, 0, 1, NONE, 0);
        wishIs(q, 1, 1, 0, 0);
    }

    @Holds(promise = 10, says = "A wish is ready if all of its singers are there.")
    static void inQueueReadyIfBothAreThere() {
        for (int set = 0; set < 4; set++) {
            Queue q = Evenings.with(2, 1);
            q.wish(0, 1, 0);
            q.wish(0, NONE, 0);
            q.leave(0, true);
            q.leave(1, true);
            if ((set & 1) != 0) {
                q.leave(0, false);
            }
            if ((set & 2) != 0) {
                q.leave(1, false);
            }
            due(q.inQueue(0, 4), set == 3 ? 1 : 0);
            due(q.inQueue(1, 4), set & 1);
        }
    }

    @Holds(promise = 10, says = "The singers of the latest turn are tired: <a wish is fresh if none of its singers is tired>.")
    static void inQueueFreshIfNeitherIsTired() {
        Queue q = Evenings.with(3, 1);
        q.wish(0, 1, 0);
        due(q.inQueue(0, 5), 1);
        q.wish(0, NONE, 0);
        q.wish(1, NONE, 0);
        q.wish(2, NONE, 0);
        q.wish(2, 1, 0);
        q.sing(1);
        int[] fresh = {0, 0, 1, 0};
        for (int i = 0; i < 4; i++) {
            due(q.inQueue(i, 5), fresh[i]);
        }
    }

    @Holds(promise = 10, says = "A call that returns an error changes nothing.")
    static void aRefusedInQueueChangesNothing() {
        refused(Evenings::nothing, q -> q.inQueue(0, 0), NO_SUCH);
        refused(Evenings::busy, q -> q.inQueue(0, 7), BAD_VALUE);
        refused(Evenings::full, q -> q.inQueue(20, 0), NO_SUCH);
    }

    @Holds(promise = 10, says = "NONE (-6) is not an error; <it is returned only if no error applies>.")
    static void inQueueNoneOnlyIfNoErrorApplies() {
        tells(Evenings::busy, q -> q.inQueue(3, 1), NONE);
        refused(Evenings::busy, q -> q.inQueue(4, 1), NO_SUCH);
        refused(Evenings::busy, q -> q.inQueue(3, NONE), BAD_VALUE);
    }

    // ---- promise 11: key

    @Holds(promise = 11, says = "Returns the key of a song for one or two singers.")
    static void keyForOneOrTwo() {
        Queue q = voices(22, 40, 0, 33, 20, 31);
        due(q.key(0, NONE, 0), 12);
        due(q.key(1, NONE, 0), 10);
        due(q.key(2, NONE, 0), 10);
        due(q.key(0, 1, 0), 12);
        due(q.key(1, 0, 0), 12);
        due(q.key(0, 2, 0), NONE);
        due(q.key(2, 0, 0), NONE);
    }

    @Holds(promise = 11, says = "Returns the key of a song for one or two singers.")
    static void keyChangesNothing() {
        tells(Evenings::busy, q -> q.key(0, 1, 1), 5);
        tells(Evenings::busy, q -> q.key(1, NONE, 2), NONE);
        tells(Evenings::full, q -> q.key(11, NONE, 15), 10);
    }

    @Holds(promise = 11, says = "`other`: another singer, or NONE")
    static void keyWithAnotherOrNone() {
        Queue q = Evenings.with(12, 1);
        due(q.key(0, NONE, 0), 10);
        due(q.key(0, 11, 0), 10);
        due(q.key(11, 0, 0), 10);
        due(q.key(0, 12, 0), NO_SUCH);
        due(q.key(0, NONE + 1, 0), NO_SUCH);
        due(q.key(0, NONE - 1, 0), NO_SUCH);
        due(q.key(NONE, 0, 0), NO_SUCH);
        due(q.key(NONE, NONE, 0), NO_SUCH);
    }

    @Holds(promise = 11, says = "<Returns the key, and 10>; NO_SUCH if there is no such singer or song; BAD_VALUE if both singers are "
            + "the same; NONE if there is none.")
    static void keysFrom4To16() {
        Queue q = new Queue();
        q.singer(30, 30);
        for (int tone = 24; tone <= 36; tone++) {
            q.song(tone, tone, 1);
            due(q.key(0, NONE, tone - 24), 40 - tone);
        }
    }

    @Holds(promise = 11, says = "Returns the key, and 10; <NO_SUCH if there is no such singer> or song; BAD_VALUE if both singers are "
            + "the same; NONE if there is none.")
    static void keyOfNobody() {
        refused(q -> q.song(0, 60, 1), q -> q.key(0, NONE, 0), NO_SUCH);
        for (int nobody : outside(0, 3)) {
            refused(Evenings::busy, q -> q.key(nobody, NONE, 0), NO_SUCH);
            refused(Evenings::busy, q -> q.key(nobody, 0, 0), NO_SUCH);
            if (nobody != NONE) {
                refused(Evenings::busy, q -> q.key(0, nobody, 0), NO_SUCH);
            }
        }
        refused(Evenings::full, q -> q.key(12, NONE, 0), NO_SUCH);
        refused(Evenings::full, q -> q.key(0, 12, 0), NO_SUCH);
    }

    @Holds(promise = 11, says = "Returns the key, and 10; NO_SUCH if there is no such singer <or song>; BAD_VALUE if both singers are "
            + "the same; NONE if there is none.")
    static void keyOfNoSong() {
        refused(q -> q.singer(0, 60), q -> q.key(0, NONE, 0), NO_SUCH);
        for (int nothing : outside(0, 2)) {
            refused(Evenings::busy, q -> q.key(0, NONE, nothing), NO_SUCH);
            refused(Evenings::busy, q -> q.key(0, 1, nothing), NO_SUCH);
        }
        refused(Evenings::full, q -> q.key(0, NONE, 16), NO_SUCH);
    }

    @Holds(promise = 11, says = "Returns the key, and 10; NO_SUCH if there is no such singer or song; <BAD_VALUE if both singers are "
            + "the same>; NONE if there is none.")
    static void keyOfADuetOfOne() {
        refused(Evenings::busy, q -> q.key(0, 0, 0), BAD_VALUE);
        refused(Evenings::busy, q -> q.key(3, 3, 2), BAD_VALUE);
        refused(Evenings::full, q -> q.key(11, 11, 15), BAD_VALUE);
    }

    @Holds(promise = 11, says = "Returns the key, and 10; NO_SUCH if there is no such singer or song; BAD_VALUE if both singers are "
            + "the same; <NONE if there is none>.")
    static void keyThatIsNone() {
        Queue q = voices(26, 36, 27, 37, 14, 24, 13, 23, 20, 29, 21, 30, 25, 25);
        int[] keys = {16, NONE, 4, NONE, NONE, NONE, NONE};
        for (int i = 0; i < keys.length; i++) {
            due(q.key(i, NONE, 0), keys[i]);
        }
        due(q.key(0, 2, 0), NONE);
        tells(Evenings::busy, r -> r.key(1, NONE, 0), NONE);
    }

    @Holds(promise = 11, says = "A method that fails returns one of the error codes NO_SUCH (-1), BAD_VALUE (-2), BAD_TEXT (-3), "
            + "TOO_MANY (-4) and NOT_POSSIBLE (-5); <it names its errors in the order in which they are checked, "
            + "and the first one that applies is returned>.")
    static void keyErrorsInTheirOrder() {
        refused(Evenings::busy, q -> q.key(4, 4, 0), NO_SUCH);
        refused(Evenings::busy, q -> q.key(-1, -1, 0), NO_SUCH);
        refused(Evenings::busy, q -> q.key(0, 0, 3), NO_SUCH);
    }

    @Holds(promise = 11, says = "NONE (-6) is not an error; <it is returned only if no error applies>.")
    static void keyNoneOnlyIfNoErrorApplies() {
        // 1 has no key for song 0
        refused(Evenings::busy, q -> q.key(1, 1, 0), BAD_VALUE);
        refused(Evenings::busy, q -> q.key(1, 4, 0), NO_SUCH);
        tells(Evenings::busy, q -> q.key(1, 0, 0), NONE);
    }

    @Holds(promise = 11, says = "A song can be shifted by a key, <-6 to 6>: all of its tones become so much higher.")
    static void keyNotBeyond6() {
        Queue q = voices(26, 36, 27, 60, 14, 24, 0, 23);
        due(q.key(0, NONE, 0), 16);
        due(q.key(1, NONE, 0), NONE);
        due(q.key(2, NONE, 0), 4);
        due(q.key(3, NONE, 0), NONE);
    }

    @Holds(promise = 11, says = "<A song can be shifted by a key>, -6 to 6: <all of its tones become so much higher>.")
    static void keyAtTheEndsOfAllTones() {
        Queue q = new Queue();
        q.singer(54, 60);
        q.singer(0, 6);
        q.song(48, 54, 1);
        q.song(47, 53, 1);
        q.song(6, 12, 1);
        q.song(7, 13, 1);
        q.song(60, 60, 1);
        q.song(0, 0, 1);
        int[][] keys = {{16, NONE, NONE, NONE, 10, NONE}, {NONE, NONE, 4, NONE, NONE, 10}};
        for (int song = 0; song < 6; song++) {
            due(q.key(0, NONE, song), keys[0][song]);
            due(q.key(1, NONE, song), keys[1][song]);
        }
    }

    @Holds(promise = 11, says = "A key fits a singer and a song if the song's tones, shifted, are all in the voice.")
    static void keyFitsIfAllTonesAreInTheVoice() {
        Queue q = voices(20, 30, 20, 29, 21, 30, 21, 31, 19, 29, 0, 60, 20, 20);
        int[] keys = {10, NONE, NONE, 11, 9, 10, NONE};
        for (int i = 0; i < keys.length; i++) {
            due(q.key(i, NONE, 0), keys[i]);
        }
    }

    @Holds(promise = 11, says = "A key fits a singer and a song if the song's tones, shifted, are all in the voice.")
    static void keyOfTheWidestAndTheNarrowest() {
        Queue q = new Queue();
        q.singer(0, 60);
        q.singer(30, 30);
        q.song(0, 60, 1);
        q.song(30, 30, 1);
        due(q.key(0, NONE, 0), 10);
        due(q.key(1, NONE, 0), NONE);
        due(q.key(0, NONE, 1), 10);
        due(q.key(1, NONE, 1), 10);
        due(q.key(0, 1, 1), 10);
        due(q.key(0, 1, 0), NONE);
    }

    @Holds(promise = 11, says = "<The key of a song for one or two singers is the one that fits all of them with the least size>; "
            + "of two of a size the one that is not below 0; there is none if none fits.")
    static void keyOfTheLeastSize() {
        Queue q = voices(22, 60, 0, 28, 21, 34, 16, 29, 20, 60, 0, 30);
        int[] keys = {12, 8, 11, 9, 10, 10};
        for (int i = 0; i < keys.length; i++) {
            due(q.key(i, NONE, 0), keys[i]);
        }
        due(q.key(0, 4, 0), 12);
        due(q.key(1, 5, 0), 8);
        due(q.key(2, 0, 0), 12);
        due(q.key(3, 1, 0), 8);
    }

    @Holds(promise = 11, says = "The key of a song for one or two singers is the one that fits all of them with the least size; "
            + "<of two of a size the one that is not below 0>; there is none if none fits.")
    static void keyNotBelow0OfTwoOfASize() {
        // where -1 and 1 both fit, 0 does, too: 0 is not below 0
        Queue q = voices(19, 31, 0, 60, 14, 36);
        for (int i = 0; i < 3; i++) {
            due(q.key(i, NONE, 0), 10);
            due(q.key(i, (i + 1) % 3, 0), 10);
        }
    }

    @Holds(promise = 11, says = "The key of a song for one or two singers is the one that fits all of them with the least size; "
            + "of two of a size the one that is not below 0; <there is none if none fits>.")
    static void keyNoneFits() {
        Queue q = voices(21, 31, 19, 29, 20, 31, 21, 32);
        due(q.key(0, NONE, 0), 11);
        due(q.key(1, NONE, 0), 9);
        due(q.key(0, 1, 0), NONE);
        due(q.key(2, 3, 0), 11);
    }

    @Holds(promise = 11, says = "A call that returns an error changes nothing.")
    static void aRefusedKeyChangesNothing() {
        refused(Evenings::nothing, q -> q.key(0, NONE, 0), NO_SUCH);
        refused(Evenings::busy, q -> q.key(2, 2, 0), BAD_VALUE);
        refused(Evenings::full, q -> q.key(0, NONE, 16), NO_SUCH);
    }

    // ---- promise 12: ofSong

    @Holds(promise = 12, says = "`what`: <0 its lowest tone, 1 its highest one>, 2 its length, 3 the singers who have a key for it, as a set, "
            + "4 how often it was sung")
    static void ofSongItsTones() {
        Queue q = new Queue();
        int[][] songs = {{0, 60}, {0, 0}, {60, 60}, {1, 59}};
        for (int i = 0; i < songs.length; i++) {
            q.song(songs[i][0], songs[i][1], 1);
            due(q.ofSong(i, 0), songs[i][0]);
            due(q.ofSong(i, 1), songs[i][1]);
        }
    }

    @Holds(promise = 12, says = "`what`: 0 its lowest tone, 1 its highest one, <2 its length>, 3 the singers who have a key for it, as a set, "
            + "4 how often it was sung")
    static void ofSongItsLength() {
        Queue q = Evenings.with(0, 1, 9, 5);
        due(q.ofSong(0, 2), 1);
        due(q.ofSong(1, 2), 9);
        due(q.ofSong(2, 2), 5);
    }

    @Holds(promise = 12, says = "`what`: 0 its lowest tone, 1 its highest one, 2 its length, <3 the singers who have a key for it, as a set>, "
            + "4 how often it was sung")
    static void ofSongWhoHasAKey() {
        Queue q = new Queue();
        q.song(20, 30, 1);
        due(q.ofSong(0, 3), 0);
        q.singer(26, 36);
        due(q.ofSong(0, 3), 0b1);
        q.singer(27, 37);
        q.singer(14, 24);
        q.singer(13, 23);
        due(q.ofSong(0, 3), 0b101);
        q.singers(8, 0, 60);
        due(q.ofSong(0, 3), 0xff5);
        q.leave(0, true);
        due(q.ofSong(0, 3), 0xff5);
    }

    @Holds(promise = 12, says = "<`what`>: 0 its lowest tone, 1 its highest one, 2 its length, 3 the singers who have a key for it, as a set, "
            + "<4 how often it was sung>")
    static void ofSongHowOftenSung() {
        Queue q = Evenings.with(2, 1, 1);
        due(q.ofSong(0, 4), 0);
        q.wish(0, 1, 0);
        due(q.ofSong(0, 4), 0);
        q.sing(1);
        due(q.ofSong(0, 4), 1);
        due(q.ofSong(1, 4), 0);
        q.wishes(20, 0, NONE, 1);
        q.sing(20);
        due(q.ofSong(1, 4), 20);
        due(q.ofSong(0, 4), 1);
    }

    @Holds(promise = 12, says = "<Returns the number; NO_SUCH if there is no such song>; BAD_VALUE if what is out of range.")
    static void ofNoSong() {
        for (int what = 0; what <= 4; what++) {
            int asked = what;
            refused(Evenings::nothing, q -> q.ofSong(0, asked), NO_SUCH);
            refused(Evenings::busy, q -> q.ofSong(3, asked), NO_SUCH);
            refused(Evenings::full, q -> q.ofSong(16, asked), NO_SUCH);
        }
        for (int nothing : outside(0, 2)) {
            refused(Evenings::busy, q -> q.ofSong(nothing, 0), NO_SUCH);
        }
        for (int nothing : outside(0, 15)) {
            refused(Evenings::full, q -> q.ofSong(nothing, 3), NO_SUCH);
        }
    }

    @Holds(promise = 12, says = "Returns the number; NO_SUCH if there is no such song; <BAD_VALUE if what is out of range>.")
    static void ofSongNothingKnown() {
        for (int what : outside(0, 4)) {
            refused(Evenings::busy, q -> q.ofSong(0, what), BAD_VALUE);
            refused(Evenings::full, q -> q.ofSong(15, what), BAD_VALUE);
        }
    }

    @Holds(promise = 12, says = "A method that fails returns one of the error codes NO_SUCH (-1), BAD_VALUE (-2), BAD_TEXT (-3), "
            + "TOO_MANY (-4) and NOT_POSSIBLE (-5); <it names its errors in the order in which they are checked, "
            + "and the first one that applies is returned>.")
    static void ofNoSongAheadOfNothingKnown() {
        refused(Evenings::nothing, q -> q.ofSong(0, 5), NO_SUCH);
        refused(Evenings::busy, q -> q.ofSong(3, -1), NO_SUCH);
        refused(Evenings::full, q -> q.ofSong(16, 5), NO_SUCH);
    }

    @Holds(promise = 12, says = "Returns something about a song.")
    static void ofSongChangesNothing() {
        int[] told = {12, 28, 3, 0b0101, 1};
        for (int what = 0; what <= 4; what++) {
            int asked = what;
            tells(Evenings::busy, q -> q.ofSong(0, asked), told[what]);
        }
    }

    @Holds(promise = 12, says = "A song has a lowest and a highest tone (0 to 60), and a length (1 to 9 minutes).")
    static void ofSongsAtTheirBounds() {
        Queue q = new Queue();
        q.song(0, 0, 1);
        q.song(60, 60, 9);
        int[][] told = {{0, 0, 1, 0, 0}, {60, 60, 9, 0, 0}};
        for (int song = 0; song < 2; song++) {
            for (int what = 0; what <= 4; what++) {
                due(q.ofSong(song, what), told[song][what]);
            }
        }
    }

    @Holds(promise = 12, says = "A song can be shifted by a key, <-6 to 6>: all of its tones become so much higher.")
    static void ofSongKeysNotBeyond6() {
        Queue q = new Queue();
        q.song(30, 30, 1);
        for (int tone = 23; tone <= 30; tone++) {
            q.singer(tone, tone);
        }
        due(q.ofSong(0, 3), 0b11111110);
        Queue high = new Queue();
        high.song(30, 30, 1);
        for (int tone = 30; tone <= 37; tone++) {
            high.singer(tone, tone);
        }
        due(high.ofSong(0, 3), 0b01111111);
    }

    @Holds(promise = 12, says = "Sets of singers are bit masks.")
    static void ofSongSetOfTwelve() {
        Queue q = new Queue();
        q.song(30, 30, 1);
        for (int i = 0; i < 12; i++) {
            q.singer(i == 0 || i == 11 ? 0 : 50, 60);
        }
        due(q.ofSong(0, 3), 0x801);
    }

    @Holds(promise = 12, says = "A call that returns an error changes nothing.")
    static void aRefusedOfSongChangesNothing() {
        refused(Evenings::nothing, q -> q.ofSong(0, 0), NO_SUCH);
        refused(Evenings::busy, q -> q.ofSong(0, 5), BAD_VALUE);
        refused(Evenings::full, q -> q.ofSong(16, 0), NO_SUCH);
    }

    @Holds(promise = 12, says = "A key fits a singer and a song if the song's tones, shifted, are all in the voice.")
    static void ofSongAllTonesInTheVoice() {
        Queue q = voices(20, 30, 20, 29, 21, 30, 25, 35, 25, 34, 30, 30);
        due(q.ofSong(0, 3), 0b001001);
    }

    @Holds(promise = 12, says = "The key of a song for one or two singers is the one that fits all of them with the least size; "
            + "of two of a size the one that is not below 0; <there is none if none fits>.")
    static void ofSongNobodyHasAKey() {
        Queue q = voices(0, 9, 51, 60, 20, 29);
        due(q.ofSong(0, 3), 0);
        q.singer(26, 36);
        due(q.ofSong(0, 3), 0b1000);
    }

    // ---- promise 13: past

    @Holds(promise = 13, says = "Returns something about a turn that was sung; <the latest 12 are remembered>.")
    static void twelveTurnsAreRemembered() {
        for (int turns : new int[] {11, 12, 13, 23, 24, 25}) {
            Queue q = made(afterTurns(turns));
            int remembered = Math.min(turns, 12);
            for (int back = 0; back < remembered; back++) {
                int turn = turns - 1 - back;
                turnWas(q, back, turn & 1, NONE, turn & 1, turn);
            }
            for (int what = 0; what <= 3; what++) {
                due(q.past(remembered, what), NO_SUCH);
                due(q.past(remembered + 1, what), NO_SUCH);
            }
        }
    }

    @Holds(promise = 13, says = "<Returns something about a turn that was sung>; the latest 12 are remembered.")
    static void pastChangesNothing() {
        int[][] told = {{1, NONE, 1, 3}, {0, NONE, 0, 0}};
        for (int back = 0; back <= 1; back++) {
            for (int what = 0; what <= 3; what++) {
                int turn = back;
                int asked = what;
                tells(Evenings::busy, q -> q.past(turn, asked), told[back][what]);
            }
        }
    }

    @Holds(promise = 13, says = "`back`: 0 for the latest one")
    static void pastTheLatest() {
        Queue q = Evenings.with(3, 5);
        for (int i = 0; i < 15; i++) {
            q.wish(i % 3, NONE, 0);
            q.sing(1);
            due(q.past(0, 0), i % 3);
            due(q.past(0, 3), 5 * i);
        }
        due(q.past(-1, 0), NO_SUCH);
        due(q.past(1, 0), 1);
    }

    @Holds(promise = 13, says = "`what`: <0 the first singer, 1 the other one (NONE), 2 the song>, 3 the minute at which it began")
    static void pastSingersAndSong() {
        Queue q = new Queue();
        q.singers(12, 0, 60);
        q.songs(16, 0, 60, 1);
        q.wish(11, 0, 15);
        q.sing(1);
        turnWas(q, 0, 11, 0, 15, 0);
        q.wish(0, 11, 0);
        q.sing(1);
        turnWas(q, 0, 0, 11, 0, 1);
        q.wish(11, NONE, 7);
        q.sing(1);
        turnWas(q, 0, 11, NONE, 7, 2);
        turnWas(q, 2, 11, 0, 15, 0);
    }

    @Holds(promise = 13, says = "<`what`>: 0 the first singer, 1 the other one (NONE), 2 the song, <3 the minute at which it began>")
    static void pastTheMinuteItBegan() {
        Queue q = Evenings.with(1, 9, 1);
        q.wish(0, NONE, 0);
        q.wish(0, NONE, 1);
        q.wish(0, NONE, 0);
        q.sing(3);
        due(q.past(2, 3), 0);
        due(q.past(1, 3), 9);
        due(q.past(0, 3), 10);
        due(q.count(6), 19);
        q.wishes(20, 0, NONE, 0);
        q.sing(20);
        due(q.past(0, 3), 190);
        due(q.past(11, 3), 91);
    }

    @Holds(promise = 13, says = "<Returns the number; NO_SUCH if there is no such turn> (any more); BAD_VALUE if what is out of range.")
    static void pastNoSuchTurn() {
        refused(Evenings::nothing, q -> q.past(0, 0), NO_SUCH);
        refused(afterTurns(1), q -> q.past(1, 0), NO_SUCH);
        due(made(afterTurns(1)).past(0, 0), 0);
        for (int back : outside(0, 1)) {
            refused(Evenings::busy, q -> q.past(back, 0), NO_SUCH);
        }
    }

    @Holds(promise = 13, says = "Returns the number; NO_SUCH if there is no such turn <(any more)>; BAD_VALUE if what is out of range.")
    static void pastNoSuchTurnAnyMore() {
        due(made(afterTurns(12)).past(11, 3), 0);
        due(made(afterTurns(13)).past(11, 3), 1);
        refused(afterTurns(13), q -> q.past(12, 3), NO_SUCH);
        for (int back : outside(0, 11)) {
            refused(Evenings::full, q -> q.past(back, 2), NO_SUCH);
        }
    }

    @Holds(promise = 13, says = "Returns the number; NO_SUCH if there is no such turn (any more); <BAD_VALUE if what is out of range>.")
    static void pastNothingKnown() {
        for (int what : outside(0, 3)) {
            refused(Evenings::busy, q -> q.past(0, what), BAD_VALUE);
            refused(Evenings::full, q -> q.past(11, what), BAD_VALUE);
        }
    }

    @Holds(promise = 13, says = "A method that fails returns one of the error codes NO_SUCH (-1), BAD_VALUE (-2), BAD_TEXT (-3), "
            + "TOO_MANY (-4) and NOT_POSSIBLE (-5); <it names its errors in the order in which they are checked, "
            + "and the first one that applies is returned>.")
    static void pastNoSuchTurnAheadOfNothingKnown() {
        refused(Evenings::nothing, q -> q.past(0, 4), NO_SUCH);
        refused(Evenings::busy, q -> q.past(2, -1), NO_SUCH);
        refused(Evenings::full, q -> q.past(12, 4), NO_SUCH);
    }

    @Holds(promise = 13, says = "Everything is numbered from 0.")
    static void pastTheOnlyTurnIs0() {
        Queue q = made(afterTurns(1));
        due(q.past(0, 0), 0);
        due(q.past(1, 0), NO_SUCH);
    }

    @Holds(promise = 13, says = "A call that returns an error changes nothing.")
    static void aRefusedPastChangesNothing() {
        refused(Evenings::nothing, q -> q.past(0, 0), NO_SUCH);
        refused(Evenings::busy, q -> q.past(0, 4), BAD_VALUE);
        refused(Evenings::full, q -> q.past(12, 0), NO_SUCH);
    }

    @Holds(promise = 13, says = "NONE (-6) is not an error; <it is returned only if no error applies>.")
    static void pastNoneOnlyIfNoErrorApplies() {
        tells(Evenings::busy, q -> q.past(0, 1), NONE);
        refused(Evenings::busy, q -> q.past(2, 1), NO_SUCH);
        refused(Evenings::busy, q -> q.past(NONE, 1), NO_SUCH);
    }

    // ---- promise 14: count

    @Holds(promise = 14, says = "`what`: <0 singers>, 1 singers who are there, as a set, 2 songs, 3 wishes, 4 wishes that are ready, "
            + "5 the next wish (NONE), 6 the minutes, 7 turns sung, 8 the tired ones, as a set, 9 the length of the pad, "
            + "10 how many changes can be undone")
    static void countSingers() {
        Queue q = new Queue();
        for (int i = 0; i < 12; i++) {
            due(q.count(0), i);
            q.singer(0, 60);
        }
        due(q.count(0), 12);
        q.leave(0, true);
        due(q.count(0), 12);
    }

    @Holds(promise = 14, says = "`what`: 0 singers, <1 singers who are there, as a set>, 2 songs, 3 wishes, 4 wishes that are ready, "
            + "5 the next wish (NONE), 6 the minutes, 7 turns sung, 8 the tired ones, as a set, 9 the length of the pad, "
            + "10 how many changes can be undone")
    static void countSingersThere() {
        Queue q = Evenings.with(12, 1);
        due(q.count(1), 0xfff);
        for (int i = 0; i < 12; i++) {
            q.leave(i, true);
            due(q.count(1), 0xfff & ~((1 << i + 1) - 1));
        }
        due(q.count(1), 0);
        q.leave(11, false);
        due(q.count(1), 0x800);
    }

    @Holds(promise = 14, says = "`what`: 0 singers, 1 singers who are there, as a set, <2 songs>, 3 wishes, 4 wishes that are ready, "
            + "5 the next wish (NONE), 6 the minutes, 7 turns sung, 8 the tired ones, as a set, 9 the length of the pad, "
            + "10 how many changes can be undone")
    static void countSongs() {
        Queue q = new Queue();
        for (int i = 0; i < 16; i++) {
            due(q.count(2), i);
            q.song(0, 60, 1);
        }
        due(q.count(2), 16);
    }

    @Holds(promise = 14, says = "`what`: 0 singers, 1 singers who are there, as a set, 2 songs, <3 wishes>, 4 wishes that are ready, "
            + "5 the next wish (NONE), 6 the minutes, 7 turns sung, 8 the tired ones, as a set, 9 the length of the pad, "
            + "10 how many changes can be undone")
    static void countWishes() {
        Queue q = Evenings.with(1, 1);
        for (int i = 0; i < 20; i++) {
            due(q.count(3), i);
            q.wish(0, NONE, 0);
        }
        due(q.count(3), 20);
        q.leave(0, true);
        due(q.count(3), 20);
    }

    @Holds(promise = 14, says = "`what`: 0 singers, 1 singers who are there, as a set, 2 songs, 3 wishes, <4 wishes that are ready>, "
            + "5 the next wish (NONE), 6 the minutes, 7 turns sung, 8 the tired ones, as a set, 9 the length of the pad, "
            + "10 how many changes can be undone")
    static void countReadyWishes() {
        Queue q = Evenings.with(2, 1);
        due(q.count(4), 0);
        q.wishes(19, 0, NONE, 0);
        q.wish(0, 1, 0);
        due(q.count(4), 20);
        q.leave(1, true);
        due(q.count(4), 19);
        q.leave(0, true);
        due(q.count(4), 0);
        q.leave(1, false);
        due(q.count(4), 0);
    }

    @Holds(promise = 14, says = "`what`: 0 singers, 1 singers who are there, as a set, 2 songs, 3 wishes, 4 wishes that are ready, "
            + "<5 the next wish (NONE)>, 6 the minutes, 7 turns sung, 8 the tired ones, as a set, 9 the length of the pad, "
            + "10 how many changes can be undone")
    static void countTheNextWish() {
        Queue q = Evenings.with(2, 1);
        due(q.count(5), NONE);
        q.wish(0, NONE, 0);
        due(q.count(5), 0);
        q.sing(1);
        due(q.count(5), NONE);
        q.wishes(19, 0, NONE, 0);
        due(q.count(5), 0);
        q.wish(1, NONE, 0);
        due(q.count(5), 19);
        q.leave(1, true);
        due(q.count(5), 0);
        q.leave(0, true);
        due(q.count(5), NONE);
    }

    @Holds(promise = 14, says = "`what`: 0 singers, 1 singers who are there, as a set, 2 songs, 3 wishes, 4 wishes that are ready, "
            + "5 the next wish (NONE), <6 the minutes>, 7 turns sung, 8 the tired ones, as a set, 9 the length of the pad, "
            + "10 how many changes can be undone")
    static void countMinutes() {
        Queue q = Evenings.with(1, 1, 9);
        due(q.count(6), 0);
        q.wish(0, NONE, 0);
        due(q.count(6), 0);
        q.sing(20);
        due(q.count(6), 1);
        for (int i = 1; i <= 10; i++) {
            q.wishes(20, 0, NONE, 1);
            q.sing(20);
            due(q.count(6), 1 + 180 * i);
        }
    }

    @Holds(promise = 14, says = "`what`: 0 singers, 1 singers who are there, as a set, 2 songs, 3 wishes, 4 wishes that are ready, "
            + "5 the next wish (NONE), 6 the minutes, <7 turns sung>, 8 the tired ones, as a set, 9 the length of the pad, "
            + "10 how many changes can be undone")
    static void countTurns() {
        Queue q = Evenings.with(2, 1);
        due(q.count(7), 0);
        for (int i = 1; i <= 10; i++) {
            q.wishes(20, 0, 1, 0);
            due(q.count(7), 20 * i - 20);
            q.sing(20);
            due(q.count(7), 20 * i);
        }
        q.sing(1);
        due(q.count(7), 200);
    }

    @Holds(promise = 14, says = "`what`: 0 singers, 1 singers who are there, as a set, 2 songs, 3 wishes, 4 wishes that are ready, "
            + "5 the next wish (NONE), 6 the minutes, 7 turns sung, <8 the tired ones, as a set>, 9 the length of the pad, "
            + "10 how many changes can be undone")
    static void countTiredOnes() {
        Queue q = Evenings.with(12, 1);
        due(q.count(8), 0);
        for (int i = 0; i < 12; i++) {
            q.wish(i, i == 11 ? NONE : 11, 0);
            q.sing(1);
            due(q.count(8), 1 << i | 0x800);
        }
        q.wish(0, NONE, 0);
        q.sing(1);
        due(q.count(8), 1);
    }

    @Holds(promise = 14, says = "`what`: 0 singers, 1 singers who are there, as a set, 2 songs, 3 wishes, 4 wishes that are ready, "
            + "5 the next wish (NONE), 6 the minutes, 7 turns sung, 8 the tired ones, as a set, <9 the length of the pad>, "
            + "10 how many changes can be undone")
    static void countTheLengthOfThePad() {
        Queue q = new Queue();
        for (int i = 0; i < 60; i++) {
            due(q.count(9), i);
            q.put('0');
        }
        due(q.count(9), 60);
        q.put('0');
        due(q.count(9), 60);
        q.wipe();
        due(q.count(9), 0);
    }

    @Holds(promise = 14, says = "<`what`>: 0 singers, 1 singers who are there, as a set, 2 songs, 3 wishes, 4 wishes that are ready, "
            + "5 the next wish (NONE), 6 the minutes, 7 turns sung, 8 the tired ones, as a set, 9 the length of the pad, "
            + "<10 how many changes can be undone>")
    static void countChangesToUndo() {
        Queue q = new Queue();
        for (int i = 0; i < 15; i++) {
            due(q.count(10), Math.min(i, 6));
            q.sing(1);
        }
        for (int i = 5; i >= 0; i--) {
            q.undo();
            due(q.count(10), i);
        }
        q.undo();
        due(q.count(10), 0);
    }

    @Holds(promise = 14, says = "<Returns the number>; BAD_VALUE if what is out of range.")
    static void countOfEachEvening() {
        int[] nothing = {0, 0, 0, 0, 0, NONE, 0, 0, 0, 0, 0};
        int[] busy = {4, 0b0111, 3, 4, 3, 3, 7, 2, 0b0010, 8, 6};
        int[] full = {12, 0xfff, 16, 20, 20, 9, 83, 20, 0x80, 60, 6};
        for (int what = 0; what <= 10; what++) {
            int asked = what;
            tells(Evenings::nothing, q -> q.count(asked), nothing[what]);
            tells(Evenings::busy, q -> q.count(asked), busy[what]);
            tells(Evenings::full, q -> q.count(asked), full[what]);
        }
    }

    @Holds(promise = 14, says = "Returns the number; <BAD_VALUE if what is out of range>.")
    static void countNothingKnown() {
        for (Consumer<Queue> evening : ALL_EVENINGS) {
            for (int what : outside(0, 10)) {
                refused(evening, q -> q.count(what), BAD_VALUE);
            }
        }
    }

    @Holds(promise = 14, says = "Returns a number.")
    static void countChangesNothing() {
        Queue q = made(Evenings::busy);
        for (int i = 0; i < 2; i++) {
            for (int what = 0; what <= 10; what++) {
                q.count(what);
            }
        }
        same(Looks.HISTORY, q, made(Evenings::busy));
    }

    @Holds(promise = 14, says = "There are up to 12 singers, numbered in the order in which they came.")
    static void countNoThirteenthSinger() {
        Queue q = made(r -> r.singers(13, 0, 60));
        due(q.count(0), 12);
        due(q.count(1), 0xfff);
    }

    @Holds(promise = 14, says = "There are up to 16 songs, numbered in the order in which they were added.")
    static void countNoSeventeenthSong() {
        due(made(q -> q.songs(17, 0, 60, 1)).count(2), 16);
    }

    @Holds(promise = 14, says = "There are up to 20 wishes that stand in the queue, in the order in which they were made "
            + "(when one has had its turn, or is taken back, those behind it move up).")
    static void countNoTwentyFirstWish() {
        Queue q = Evenings.with(1, 1);
        q.wishes(21, 0, NONE, 0);
        due(q.count(3), 20);
        due(q.count(4), 20);
        q.sing(1);
        due(q.count(3), 19);
        q.takeBack(18);
        due(q.count(3), 18);
    }

    @Holds(promise = 14, says = "A wish is ready if all of its singers are there.")
    static void countReadyIfBothAreThere() {
        Queue q = Evenings.with(12, 1);
        q.wish(0, 11, 0);
        q.wish(11, 0, 0);
        due(q.count(4), 2);
        q.leave(11, true);
        due(q.count(4), 0);
        due(q.count(5), NONE);
        q.leave(0, true);
        q.leave(11, false);
        due(q.count(4), 0);
        q.leave(0, false);
        due(q.count(4), 2);
        due(q.count(5), 0);
    }

    @Holds(promise = 14, says = "If none is ready and fresh, it is found so among those that are ready.")
    static void countTheNextOfTiredOnes() {
        Queue q = Evenings.with(2, 1);
        q.wish(0, 1, 0);
        q.sing(1);
        q.wish(1, NONE, 0);
        q.wish(0, NONE, 0);
        due(q.count(5), 0);
        q.leave(1, true);
        due(q.count(5), 1);
    }

    @Holds(promise = 14, says = "If none is ready, there is none.")
    static void countNoNextWish() {
        Queue q = Evenings.with(2, 1);
        due(q.count(5), NONE);
        q.wish(0, 1, 0);
        q.leave(1, true);
        due(q.count(5), NONE);
        q.leave(1, false);
        due(q.count(5), 0);
    }

    @Holds(promise = 14, says = "Sets of singers are bit masks.")
    static void countSetsOfTheLastSinger() {
        Queue q = Evenings.with(12, 1);
        for (int i = 0; i < 11; i++) {
            q.leave(i, true);
        }
        due(q.count(1), 0x800);
        q.wish(11, NONE, 0);
        q.sing(1);
        due(q.count(8), 0x800);
    }

    @Holds(promise = 14, says = "NONE (-6) is not an error; it is returned only if no error applies.")
    static void countNoneIsNoError() {
        tells(Evenings::nothing, q -> q.count(5), NONE);
        refused(Evenings::nothing, q -> q.count(NONE), BAD_VALUE);
    }

    @Holds(promise = 14, says = "Time is in minutes, <0 at first>.")
    static void countNoMinutesAtFirst() {
        Queue q = Evenings.with(3, 9);
        q.wish(0, NONE, 0);
        q.leave(0, true);
        due(q.sing(20), 0);
        due(q.count(6), 0);
    }

    @Holds(promise = 14, says = "A call that returns an error changes nothing.")
    static void aRefusedCountChangesNothing() {
        for (Consumer<Queue> evening : ALL_EVENINGS) {
            refused(evening, q -> q.count(-1), BAD_VALUE);
            refused(evening, q -> q.count(11), BAD_VALUE);
        }
    }

    @Holds(promise = 14, says = "<The singers of the latest turn are tired>: a wish is fresh if none of its singers is tired.")
    static void countNobodyTiredAheadOfTheFirstTurn() {
        Queue q = Evenings.with(12, 1);
        q.wish(0, 11, 0);
        due(q.count(8), 0);
        q.sing(1);
        due(q.count(8), 0x801);
        q.undo();
        due(q.count(8), 0);
    }

    @Holds(promise = 14, says = "<The next wish is, of those that are ready and fresh, the one with the fewest turns that its "
            + "singers sang so far> (of a duet: those of the one who sang more); of several the earliest one.")
    static void countTheNextIsTheOneWithTheFewestTurns() {
        Queue q = Evenings.with(3, 1);
        q.wishes(2, 0, NONE, 0);
        q.wish(1, NONE, 0);
        q.sing(3);
        q.wish(2, NONE, 0);
        q.sing(1);
        // 0 sang twice, 1 and 2 once; 2 is tired
        q.wish(0, NONE, 0);
        due(q.count(5), 0);
        q.wish(2, NONE, 0);
        due(q.count(5), 0);
        q.wish(1, 0, 0);
        due(q.count(5), 0);
        q.wish(1, NONE, 0);
        due(q.count(5), 3);
        q.wish(1, NONE, 0);
        due(q.count(5), 3);
    }

    @Holds(promise = 14, says = "<The pad is a text of at most 60 characters>, a row of wishes: text = wish { \";\" wish }; wish = singer "
            + "[ \"+\" singer ] \":\" song; a singer is a number from 0 to 11, a song one from 0 to 15, without leading zeros.")
    static void countNoSixtyFirstCharacter() {
        Queue q = made(r -> r.write("1".repeat(59)));
        q.put(Queue.packed("22"));
        due(q.count(9), 59);
        q.put('2');
        due(q.count(9), 60);
        q.put('2');
        due(q.count(9), 60);
    }

    @Holds(promise = 14, says = "Ahead of the calls `of`, `inQueue`, `key`, `ofSong`, `past`, `count` the interface says: "
            + "---- what there is.")
    static void askingIsNoChange() {
        isNoChange(Evenings::busy, q -> q.of(0, 3));
        isNoChange(Evenings::busy, q -> q.inQueue(0, 3));
        isNoChange(Evenings::busy, q -> q.key(0, 1, 1));
        isNoChange(Evenings::busy, q -> q.ofSong(0, 3));
        isNoChange(Evenings::busy, q -> q.past(0, 3));
        isNoChange(Evenings::busy, q -> q.count(5));
    }
}
