import java.util.function.Consumer;

/** Boundaries of wish, takeBack, sing and read. */
final class Promises5To8 extends Checks {
    private Promises5To8() {
    }

    /** Two who can sing all songs, and one who has a key for none of the two. */
    private static void onePoorVoice(Queue q) {
        Evenings.fill(q, 2, 3, 4);
        q.singer(50, 55);
    }

    private static Consumer<Queue> withWishes(int number) {
        return q -> {
            onePoorVoice(q);
            q.wishes(number, 0, NONE, 0);
        };
    }

    /** The same, and a text on the pad. */
    private static Consumer<Queue> withPad(int wishes, String text) {
        return q -> {
            withWishes(wishes).accept(q);
            q.write(text);
        };
    }

    /** A singer with this voice, and song 0 from tone 20 to tone 30. */
    private static Consumer<Queue> withVoice(int lowest, int highest) {
        return q -> {
            q.song(20, 30, 1);
            q.singer(lowest, highest);
            q.singer(0, 60);
        };
    }

    // ---- promise 5: wish

    @Holds(promise = 5, says = "Makes a wish.")
    static void aWishStandsLastInTheQueue() {
        Queue q = Evenings.with(12, 1, 2, 3, 4, 5, 6, 7, 8, 9, 1, 2, 3, 4, 5, 6, 7);
        q.wish(11, NONE, 15);
        wishIs(q, 0, 11, NONE, 15);
        q.wish(0, 11, 0);
        wishIs(q, 1, 0, 11, 0);
        q.wish(11, 0, 0);
        wishIs(q, 2, 11, 0, 0);
        due(q.count(3), 3);
    }

    @Holds(promise = 5, says = "(Singers who have left can wish, too.)")
    static void whoHasLeftWishes() {
        Queue q = Evenings.with(3, 1);
        q.leave(0, true);
        q.leave(1, true);
        due(q.wish(0, NONE, 0), 0);
        due(q.wish(0, 1, 0), 1);
        due(q.wish(2, 0, 0), 2);
        due(q.wish(1, 2, 0), 3);
        due(q.count(3), 4);
        due(q.count(4), 0);
    }

    @Holds(promise = 5, says = "This is a change.")
    static void wishIsAChange() {
        isChange(q -> Evenings.fill(q, 1, 1), q -> q.wish(0, NONE, 0));
        isChange(withWishes(19), q -> q.wish(0, 1, 1));
        isChange(Evenings::busy, q -> q.wish(3, NONE, 2));
    }

    @Holds(promise = 5, says = "`other`: another singer, or <NONE: it is no duet>")
    static void noDuet() {
        Queue q = Evenings.with(1, 1);
        due(q.wish(0, NONE, 0), 0);
        due(q.inQueue(0, 1), NONE);
        refused(q1 -> Evenings.fill(q1, 1, 1), r -> r.wish(0, NONE + 1, 0), NO_SUCH);
        refused(q1 -> Evenings.fill(q1, 1, 1), r -> r.wish(0, NONE - 1, 0), NO_SUCH);
        refused(q1 -> Evenings.fill(q1, 1, 1), r -> r.wish(0, -1, 0), NO_SUCH);
    }

    @Holds(promise = 5, says = "`other`: <another singer>, or NONE: it is no duet")
    static void anotherSinger() {
        Queue q = Evenings.with(12, 1);
        due(q.wish(0, 11, 0), 0);
        wishIs(q, 0, 0, 11, 0);
        due(q.wish(11, 0, 0), 1);
        wishIs(q, 1, 11, 0, 0);
        due(q.wish(5, 6, 0), 2);
        due(q.wish(6, 5, 0), 3);
        due(q.wish(5, 5, 0), BAD_VALUE);
    }

    @Holds(promise = 5, says = "`other`: another singer, or NONE: it is no duet")
    static void noneIsNoFirstSinger() {
        refused(Evenings::busy, q -> q.wish(NONE, NONE, 0), NO_SUCH);
        refused(Evenings::busy, q -> q.wish(NONE, 0, 0), NO_SUCH);
    }

    @Holds(promise = 5, says = "<Returns its place in the queue>; NO_SUCH if there is no such singer or song; "
            + "BAD_VALUE if both singers are the same; TOO_MANY if there are 20 wishes; NOT_POSSIBLE if there is no key.")
    static void placesFrom0To19() {
        Queue q = Evenings.with(2, 1);
        for (int i = 0; i < 20; i++) {
            due(q.wish(i & 1, NONE, 0), i);
        }
        q.takeBack(0);
        due(q.wish(0, NONE, 0), 19);
        q.sing(20);
        due(q.wish(0, NONE, 0), 0);
    }

    @Holds(promise = 5, says = "Returns its place in the queue; <NO_SUCH if there is no such singer> or song; "
            + "BAD_VALUE if both singers are the same; TOO_MANY if there are 20 wishes; NOT_POSSIBLE if there is no key.")
    static void nobodyWishes() {
        refused(Evenings::nothing, q -> q.wish(0, NONE, 0), NO_SUCH);
        refused(q -> q.song(0, 60, 1), q -> q.wish(0, NONE, 0), NO_SUCH);
        due(made(withWishes(0)).wish(1, NONE, 0), 0);
        for (int nobody : outside(0, 2)) {
            refused(withWishes(1), q -> q.wish(nobody, NONE, 0), NO_SUCH);
            refused(withWishes(1), q -> q.wish(nobody, 0, 0), NO_SUCH);
            if (nobody != NONE) {
                refused(withWishes(1), q -> q.wish(0, nobody, 0), NO_SUCH);
            }
        }
    }

    @Holds(promise = 5, says = "Returns its place in the queue; NO_SUCH if there is no such singer <or song>; "
            + "BAD_VALUE if both singers are the same; TOO_MANY if there are 20 wishes; NOT_POSSIBLE if there is no key.")
    static void noSuchSongIsWished() {
        refused(q -> q.singer(0, 60), q -> q.wish(0, NONE, 0), NO_SUCH);
        due(made(withWishes(0)).wish(0, NONE, 1), 0);
        for (int nothing : outside(0, 1)) {
            refused(withWishes(1), q -> q.wish(0, NONE, nothing), NO_SUCH);
            refused(withWishes(1), q -> q.wish(0, 1, nothing), NO_SUCH);
        }
    }

    @Holds(promise = 5, says = "Returns its place in the queue; NO_SUCH if there is no such singer or song; "
            + "<BAD_VALUE if both singers are the same>; TOO_MANY if there are 20 wishes; NOT_POSSIBLE if there is no key.")
    static void aDuetOfOne() {
        refused(withWishes(0), q -> q.wish(0, 0, 0), BAD_VALUE);
        refused(withWishes(0), q -> q.wish(1, 1, 1), BAD_VALUE);
        refused(Evenings::busy, q -> q.wish(3, 3, 2), BAD_VALUE);
        due(made(withWishes(0)).wish(0, 1, 0), 0);
    }

    @Holds(promise = 5, says = "Returns its place in the queue; NO_SUCH if there is no such singer or song; "
            + "BAD_VALUE if both singers are the same; <TOO_MANY if there are 20 wishes>; NOT_POSSIBLE if there is no key.")
    static void aTwentyFirstWish() {
        due(made(withWishes(19)).wish(0, NONE, 0), 19);
        refused(withWishes(20), q -> q.wish(0, NONE, 0), TOO_MANY);
        refused(withWishes(20), q -> q.wish(1, 0, 1), TOO_MANY);
        refused(Evenings::full, q -> q.wish(11, NONE, 15), TOO_MANY);
        Queue q = made(withWishes(20));
        q.sing(1);
        due(q.wish(0, NONE, 0), 19);
        due(q.wish(0, NONE, 0), TOO_MANY);
    }

    @Holds(promise = 5, says = "Returns its place in the queue; NO_SUCH if there is no such singer or song; "
            + "BAD_VALUE if both singers are the same; TOO_MANY if there are 20 wishes; <NOT_POSSIBLE if there is no key>.")
    static void aWishWithoutAKey() {
        due(made(withVoice(26, 36)).wish(0, NONE, 0), 0);
        refused(withVoice(27, 37), q -> q.wish(0, NONE, 0), NOT_POSSIBLE);
        due(made(withVoice(14, 24)).wish(0, NONE, 0), 0);
        refused(withVoice(13, 23), q -> q.wish(0, NONE, 0), NOT_POSSIBLE);
        due(made(withVoice(20, 30)).wish(0, NONE, 0), 0);
        refused(withVoice(20, 29), q -> q.wish(0, NONE, 0), NOT_POSSIBLE);
        refused(withVoice(21, 30), q -> q.wish(0, NONE, 0), NOT_POSSIBLE);
    }

    @Holds(promise = 5, says = "Returns its place in the queue; NO_SUCH if there is no such singer or song; "
            + "BAD_VALUE if both singers are the same; TOO_MANY if there are 20 wishes; <NOT_POSSIBLE if there is no key>.")
    static void aDuetWithoutAKey() {
        refused(withVoice(27, 37), q -> q.wish(0, 1, 0), NOT_POSSIBLE);
        refused(withVoice(27, 37), q -> q.wish(1, 0, 0), NOT_POSSIBLE);
        due(made(withVoice(26, 36)).wish(0, 1, 0), 0);
        due(made(withVoice(26, 36)).wish(1, 0, 0), 0);
    }

    @Holds(promise = 5, says = "There are up to 20 wishes that stand in the queue, in the order in which they were made "
            + "(when one has had its turn, or is taken back, those behind it move up).")
    static void twentyWishesInTheirOrder() {
        Queue q = Evenings.with(12, 1, 2);
        for (int i = 0; i < 20; i++) {
            due(q.count(3), i);
            due(q.wish(i % 12, NONE, i & 1), i);
        }
        due(q.count(3), 20);
        due(q.wish(0, NONE, 0), TOO_MANY);
        due(q.count(3), 20);
        for (int i = 0; i < 20; i++) {
            wishIs(q, i, i % 12, NONE, i & 1);
        }
    }

    @Holds(promise = 5, says = "A wish is one singer, or two different ones (a duet), and a song, <for which they have a key>.")
    static void bothHaveAKeyButNotTheSame() {
        Consumer<Queue> evening = q -> {
            q.song(20, 30, 1);
            q.singer(20, 31);
            q.singer(22, 33);
            q.singer(21, 33);
        };
        refused(evening, q -> q.wish(0, 1, 0), NOT_POSSIBLE);
        due(made(evening).wish(0, NONE, 0), 0);
        due(made(evening).wish(1, NONE, 0), 0);
        due(made(evening).wish(0, 2, 0), 0);
    }

    @Holds(promise = 5, says = "A method that fails returns one of the error codes NO_SUCH (-1), BAD_VALUE (-2), BAD_TEXT (-3), "
            + "TOO_MANY (-4) and NOT_POSSIBLE (-5); <it names its errors in the order in which they are checked, "
            + "and the first one that applies is returned>.")
    static void errorsOfAWishInTheirOrder() {
        refused(withWishes(1), q -> q.wish(3, 3, 0), NO_SUCH);
        refused(withWishes(1), q -> q.wish(0, 0, 2), NO_SUCH);
        refused(withWishes(20), q -> q.wish(3, NONE, 0), NO_SUCH);
        refused(withWishes(20), q -> q.wish(0, 3, 0), NO_SUCH);
        refused(withWishes(20), q -> q.wish(0, NONE, 2), NO_SUCH);
        refused(withWishes(20), q -> q.wish(0, 0, 0), BAD_VALUE);
        refused(withWishes(1), q -> q.wish(2, 2, 0), BAD_VALUE);
        refused(withWishes(20), q -> q.wish(2, NONE, 0), TOO_MANY);
        refused(withWishes(19), q -> q.wish(2, NONE, 0), NOT_POSSIBLE);
    }

    @Holds(promise = 5, says = "Everything is numbered from 0.")
    static void theFirstPlaceIs0() {
        Queue q = Evenings.with(1, 1);
        due(q.wish(0, NONE, 0), 0);
        due(q.inQueue(0, 0), 0);
        due(q.inQueue(1, 0), NO_SUCH);
    }

    @Holds(promise = 5, says = "A call that returns an error changes nothing.")
    static void aRefusedWishChangesNothing() {
        refused(Evenings::nothing, q -> q.wish(0, NONE, 0), NO_SUCH);
        refused(Evenings::busy, q -> q.wish(2, 4, 0), NO_SUCH);
        refused(Evenings::busy, q -> q.wish(2, 2, 0), BAD_VALUE);
        refused(Evenings::busy, q -> q.wish(1, NONE, 0), NOT_POSSIBLE);
        refused(Evenings::full, q -> q.wish(0, NONE, 0), TOO_MANY);
    }

    @Holds(promise = 5, says = "A song can be shifted by a key, <-6 to 6>: all of its tones become so much higher.")
    static void wishesWithKeysNotBeyond6() {
        Queue q = new Queue();
        q.singer(30, 30);
        int place = 0;
        for (int tone = 22; tone <= 37; tone++) {
            q.song(tone, tone, 1);
            int want = tone < 24 || tone > 36 ? NOT_POSSIBLE : place;
            due(q.wish(0, NONE, tone - 22), want);
            place += want < 0 ? 0 : 1;
        }
        due(q.count(3), 13);
    }

    @Holds(promise = 5, says = "A key fits a singer and a song if the song's tones, shifted, are all in the voice.")
    static void wishesOfVoicesThatAreTooNarrow() {
        due(made(withVoice(25, 35)).wish(0, NONE, 0), 0);
        refused(withVoice(25, 34), q -> q.wish(0, NONE, 0), NOT_POSSIBLE);
        refused(withVoice(25, 25), q -> q.wish(0, NONE, 0), NOT_POSSIBLE);
    }

    @Holds(promise = 5, says = "The key of a song for one or two singers is the one that fits all of them with the least size; "
            + "of two of a size the one that is not below 0; <there is none if none fits>.")
    static void wishesOfTwoForWhomNoneFits() {
        Consumer<Queue> evening = q -> {
            q.song(20, 30, 1);
            q.singer(21, 31);
            q.singer(19, 29);
            q.singer(21, 33);
        };
        refused(evening, q -> q.wish(0, 1, 0), NOT_POSSIBLE);
        refused(evening, q -> q.wish(1, 2, 0), NOT_POSSIBLE);
        due(made(evening).wish(2, 0, 0), 0);
    }

    // ---- promise 6: takeBack

    private static Queue fourWishes() {
        Queue q = Evenings.with(4, 1, 2, 3, 4);
        q.wish(0, NONE, 0);
        q.wish(1, 0, 1);
        q.wish(2, NONE, 2);
        q.wish(3, 2, 3);
        return q;
    }

    @Holds(promise = 6, says = "Takes a wish back.")
    static void theFirstOneIsTakenBack() {
        Queue q = fourWishes();
        due(q.takeBack(0), 3);
        wishIs(q, 0, 1, 0, 1);
        wishIs(q, 1, 2, NONE, 2);
        wishIs(q, 2, 3, 2, 3);
        due(q.inQueue(3, 0), NO_SUCH);
    }

    @Holds(promise = 6, says = "Takes a wish back.")
    static void theLastOneIsTakenBack() {
        Queue q = fourWishes();
        due(q.takeBack(3), 3);
        wishIs(q, 0, 0, NONE, 0);
        wishIs(q, 1, 1, 0, 1);
        wishIs(q, 2, 2, NONE, 2);
        due(q.inQueue(3, 0), NO_SUCH);
    }

    @Holds(promise = 6, says = "Takes a wish back.")
    static void takenBackIsNotSung() {
        Queue q = fourWishes();
        q.takeBack(1);
        due(q.count(6), 0);
        due(q.count(7), 0);
        due(q.count(8), 0);
        due(q.of(0, 3), 0);
        due(q.ofSong(1, 4), 0);
        due(q.past(0, 0), NO_SUCH);
    }

    @Holds(promise = 6, says = "This is a change.")
    static void takeBackIsAChange() {
        isChange(withWishes(1), q -> q.takeBack(0));
        isChange(Evenings::busy, q -> q.takeBack(1));
        isChange(Evenings::full, q -> q.takeBack(0));
        isChange(Evenings::full, q -> q.takeBack(19));
    }

    @Holds(promise = 6, says = "<Returns how many there are then>; NO_SUCH if there is no such wish.")
    static void fromTwentyToNone() {
        Queue q = made(withWishes(20));
        for (int left = 19; left >= 0; left--) {
            due(q.takeBack(left / 2), left);
            due(q.count(3), left);
        }
    }

    @Holds(promise = 6, says = "Returns how many there are then; <NO_SUCH if there is no such wish>.")
    static void noSuchWishIsTakenBack() {
        refused(Evenings::nothing, q -> q.takeBack(0), NO_SUCH);
        refused(withWishes(0), q -> q.takeBack(0), NO_SUCH);
        due(made(withWishes(1)).takeBack(0), 0);
        refused(withWishes(1), q -> q.takeBack(1), NO_SUCH);
        for (int nothing : outside(0, 3)) {
            refused(Evenings::busy, q -> q.takeBack(nothing), NO_SUCH);
        }
        for (int nothing : outside(0, 19)) {
            refused(Evenings::full, q -> q.takeBack(nothing), NO_SUCH);
        }
    }

    @Holds(promise = 6, says = "Returns how many there are then; <NO_SUCH if there is no such wish>.")
    static void theSamePlaceTwice() {
        Queue q = made(withWishes(2));
        due(q.takeBack(1), 1);
        due(q.takeBack(1), NO_SUCH);
        due(q.takeBack(0), 0);
        due(q.takeBack(0), NO_SUCH);
    }

    @Holds(promise = 6, says = "There are up to 20 wishes that stand in the queue, in the order in which they were made "
            + "(<when one> has had its turn, or <is taken back, those behind it move up>).")
    static void thoseBehindTheFirstOfTwentyMoveUp() {
        Queue q = Evenings.with(12, 1, 2);
        for (int i = 0; i < 20; i++) {
            q.wish(i % 12, (i + 1) % 12, i & 1);
        }
        q.takeBack(0);
        for (int i = 0; i < 19; i++) {
            wishIs(q, i, (i + 1) % 12, (i + 2) % 12, i + 1 & 1);
        }
        due(q.inQueue(19, 0), NO_SUCH);
        due(q.wish(5, NONE, 1), 19);
        wishIs(q, 19, 5, NONE, 1);
    }

    @Holds(promise = 6, says = "A call that returns an error changes nothing.")
    static void aRefusedTakeBackChangesNothing() {
        refused(Evenings::nothing, q -> q.takeBack(0), NO_SUCH);
        refused(Evenings::busy, q -> q.takeBack(4), NO_SUCH);
        refused(Evenings::full, q -> q.takeBack(20), NO_SUCH);
    }

    // ---- promise 7: sing

    @Holds(promise = 7, says = "Lets turns be sung, <as long as there is a next wish>.")
    static void noNextWish() {
        due(new Queue().sing(1), 0);
        due(new Queue().sing(20), 0);
        Queue q = Evenings.with(2, 1);
        q.wish(0, NONE, 0);
        q.wish(1, NONE, 0);
        q.wish(1, 0, 0);
        q.leave(1, true);
        due(q.sing(20), 1);
        due(q.count(3), 2);
        due(q.sing(20), 0);
        due(q.count(3), 2);
        due(q.count(7), 1);
    }

    @Holds(promise = 7, says = "<Lets turns be sung>, as long as there is a next wish.")
    static void theOnlyWishIsSung() {
        Queue q = Evenings.with(1, 9);
        q.wish(0, NONE, 0);
        due(q.sing(1), 1);
        due(q.count(3), 0);
        due(q.count(6), 9);
        due(q.sing(1), 0);
        due(q.count(6), 9);
    }

    @Holds(promise = 7, says = "This is a change.")
    static void singIsAChange() {
        isChange(withWishes(1), q -> q.sing(1));
        isChange(Evenings::busy, q -> q.sing(1));
        isChange(Evenings::full, q -> q.sing(20));
    }

    @Holds(promise = 7, says = "This is a change.")
    static void singIsAChangeThoughNobodySings() {
        isChange(Evenings::nothing, q -> q.sing(1));
        isChange(q -> {
            withWishes(2).accept(q);
            q.leave(0, true);
        }, q -> q.sing(20));
    }

    @Holds(promise = 7, says = "<`turns`: 1> to 20, at most so many")
    static void oneTurn() {
        Queue q = made(withWishes(2));
        due(q.sing(1), 1);
        due(q.count(3), 1);
        due(q.count(7), 1);
        refused(withWishes(2), r -> r.sing(0), BAD_VALUE);
        refused(withWishes(2), r -> r.sing(-1), BAD_VALUE);
    }

    @Holds(promise = 7, says = "`turns`: 1 <to 20>, at most so many")
    static void twentyTurns() {
        Queue q = made(withWishes(20));
        due(q.sing(20), 20);
        due(q.count(3), 0);
        due(q.count(7), 20);
        refused(withWishes(20), r -> r.sing(21), BAD_VALUE);
    }

    @Holds(promise = 7, says = "`turns`: 1 to 20, <at most so many>")
    static void atMostSoManyTurns() {
        for (int turns = 1; turns <= 20; turns++) {
            Queue q = made(withWishes(10));
            due(q.sing(turns), Math.min(turns, 10));
            due(q.count(3), 10 - Math.min(turns, 10));
        }
        Queue q = made(withWishes(20));
        due(q.sing(19), 19);
        due(q.count(3), 1);
    }

    @Holds(promise = 7, says = "<Returns how many were sung>; BAD_VALUE if turns is out of range.")
    static void noneOrOneOrTwentyWereSung() {
        due(made(withWishes(0)).sing(20), 0);
        due(made(withWishes(1)).sing(20), 1);
        due(made(withWishes(19)).sing(20), 19);
        due(made(withWishes(20)).sing(20), 20);
        due(made(withWishes(20)).sing(1), 1);
    }

    @Holds(promise = 7, says = "Returns how many were sung; <BAD_VALUE if turns is out of range>.")
    static void turnsFarAway() {
        for (Consumer<Queue> evening : ALL_EVENINGS) {
            for (int turns : outside(1, 20)) {
                refused(evening, q -> q.sing(turns), BAD_VALUE);
            }
        }
    }

    @Holds(promise = 7, says = "There are up to 20 wishes that stand in the queue, in the order in which they were made "
            + "(<when one has had its turn>, or is taken back, <those behind it move up>).")
    static void thoseBehindTheOneSungMoveUp() {
        Queue q = Evenings.with(4, 1, 2, 3, 4);
        q.wish(0, NONE, 0);
        q.sing(1);
        q.wish(0, NONE, 1);
        q.wish(1, 2, 2);
        q.wish(0, 3, 3);
        q.wish(0, NONE, 0);
        due(q.count(5), 1);
        q.sing(1);
        wishIs(q, 0, 0, NONE, 1);
        wishIs(q, 1, 0, 3, 3);
        wishIs(q, 2, 0, NONE, 0);
        due(q.inQueue(3, 0), NO_SUCH);
    }

    @Holds(promise = 7, says = "A wish is ready if all of its singers are there.")
    static void aDuetWaitsForBoth() {
        Queue q = Evenings.with(3, 1);
        q.wish(0, 1, 0);
        q.leave(0, true);
        due(q.sing(1), 0);
        q.leave(0, false);
        q.leave(1, true);
        due(q.sing(1), 0);
        q.leave(2, true);
        q.leave(1, false);
        due(q.sing(1), 1);
    }

    @Holds(promise = 7, says = "<The singers of the latest turn are tired>: a wish is fresh if none of its singers is tired.")
    static void onlyThoseOfTheLatestTurnAreTired() {
        Queue q = Evenings.with(12, 1);
        due(q.count(8), 0);
        q.wish(0, 11, 0);
        q.wish(5, NONE, 0);
        q.sing(1);
        due(q.count(8), 0x801);
        q.sing(1);
        due(q.count(8), 0x20);
        due(q.of(0, 4), 0);
        due(q.of(11, 4), 0);
        due(q.of(5, 4), 1);
    }

    @Holds(promise = 7, says = "The singers of the latest turn are tired: <a wish is fresh if none of its singers is tired>.")
    static void nobodyTwiceInARow() {
        Queue q = Evenings.with(3, 1);
        q.wish(0, NONE, 0);
        q.wish(0, NONE, 0);
        q.wish(1, 0, 0);
        q.wish(0, 1, 0);
        q.wish(2, NONE, 0);
        // of what 0 leaves, 2 alone is fresh; then 0 and both duets are, and each counts one turn
        order(q, 0, 2, 0);
    }

    @Holds(promise = 7, says = "<The next wish is, of those that are ready and fresh, the one with the fewest turns that its "
            + "singers sang so far> (of a duet: those of the one who sang more); of several the earliest one.")
    static void theFewestTurns() {
        Queue q = Evenings.with(4, 1);
        q.wish(0, NONE, 0);
        q.wish(1, NONE, 0);
        q.wish(3, NONE, 0);
        q.sing(3);
        q.wish(0, NONE, 0);
        q.wish(1, NONE, 0);
        q.wish(2, NONE, 0);
        due(q.count(5), 2);
        order(q, 2, 0, 1);
    }

    @Holds(promise = 7, says = "The next wish is, <of those that are ready and fresh>, the one with the fewest turns that its "
            + "singers sang so far (of a duet: those of the one who sang more); of several the earliest one.")
    static void freshAheadOfFewerTurns() {
        Queue q = Evenings.with(2, 1);
        q.wishes(3, 1, NONE, 0);
        q.sing(3);
        q.wish(0, NONE, 0);
        q.sing(1);
        q.wish(0, NONE, 0);
        q.wish(1, NONE, 0);
        // 0 sang once and is tired, 1 sang three times
        due(q.inQueue(0, 6), 1);
        due(q.inQueue(1, 6), 3);
        due(q.count(5), 1);
        order(q, 1);
    }

    @Holds(promise = 7, says = "The next wish is, <of those that are ready> and fresh, the one with the fewest turns that its "
            + "singers sang so far (of a duet: those of the one who sang more); of several the earliest one.")
    static void fewestTurnsButNotReady() {
        Queue q = Evenings.with(3, 1);
        q.wish(1, NONE, 0);
        q.wish(2, NONE, 0);
        q.sing(2);
        q.wish(0, NONE, 0);
        q.wish(1, NONE, 0);
        due(q.count(5), 0);
        q.leave(0, true);
        due(q.count(5), 1);
        order(q, 1);
        due(q.sing(1), 0);
    }

    @Holds(promise = 7, says = "The next wish is, of those that are ready and fresh, the one with the fewest turns that its "
            + "singers sang so far (<of a duet: those of the one who sang more>); of several the earliest one.")
    static void aDuetCountsTheOneWhoSangMore() {
        for (boolean first : new boolean[] {true, false}) {
            Queue q = Evenings.with(4, 1);
            q.wishes(2, 0, NONE, 0);
            q.wish(1, NONE, 0);
            q.wish(3, NONE, 0);
            q.sing(20);
            // 0 sang twice and last, 1 and 3 once, 2 never; then 3 sings, so that 0 is fresh again
            q.wish(3, NONE, 0);
            q.sing(1);
            q.wish(first ? 0 : 2, first ? 2 : 0, 0);
            q.wish(1, NONE, 0);
            due(q.inQueue(0, 6), 2);
            due(q.inQueue(1, 6), 1);
            due(q.count(5), 1);
        }
    }

    @Holds(promise = 7, says = "The next wish is, of those that are ready and fresh, the one with the fewest turns that its "
            + "singers sang so far (of a duet: those of the one who sang more); <of several the earliest one>.")
    static void ofSeveralTheEarliest() {
        Queue q = Evenings.with(4, 1);
        q.wish(2, NONE, 0);
        q.wish(1, NONE, 0);
        q.wish(0, NONE, 0);
        order(q, 2, 1, 0);
        q.wish(3, NONE, 0);
        q.sing(1);
        q.wish(2, 1, 0);
        q.wish(0, NONE, 0);
        q.wish(1, NONE, 0);
        // each counts one turn, the duet, too
        due(q.count(5), 0);
        due(q.sing(1), 1);
        turnWas(q, 0, 2, 1, 0, 4);
    }

    @Holds(promise = 7, says = "If none is ready and fresh, it is found so among those that are ready.")
    static void noneIsFresh() {
        Queue q = Evenings.with(3, 1);
        q.wishes(2, 1, NONE, 0);
        q.sing(2);
        q.wish(0, 1, 0);
        q.sing(1);
        // 0 sang once, 1 three times, and both are tired
        q.wish(1, NONE, 0);
        q.wish(2, 1, 0);
        q.wish(0, NONE, 0);
        q.wish(0, 2, 0);
        due(q.count(5), 2);
        order(q, 0);
        due(q.count(8), 1);
    }

    @Holds(promise = 7, says = "If none is ready and fresh, it is found so among those that are ready.")
    static void whoIsFreshHasLeft() {
        Queue q = Evenings.with(2, 1);
        q.wishes(2, 0, NONE, 0);
        q.wish(1, NONE, 0);
        q.sing(1);
        due(q.count(5), 1);
        q.leave(1, true);
        due(q.count(5), 0);
        order(q, 0);
        due(q.past(1, 0), 0);
    }

    @Holds(promise = 7, says = "If none is ready, there is none.")
    static void noneIsReady() {
        Queue q = Evenings.with(2, 1);
        q.wishes(19, 0, NONE, 0);
        q.wish(1, 0, 0);
        q.leave(0, true);
        due(q.count(5), NONE);
        due(q.sing(20), 0);
        due(q.count(3), 20);
        due(q.count(6), 0);
    }

    @Holds(promise = 7, says = "In a turn the next wish is sung: <it leaves the queue, its singers have sung one turn more>, "
            + "they are tired then (nobody else is), and the length of the song passes.")
    static void itsSingersHaveSungOneTurnMore() {
        Queue q = Evenings.with(12, 7);
        q.wish(0, 11, 0);
        q.wish(5, NONE, 0);
        q.sing(1);
        due(q.count(3), 1);
        for (int i = 0; i < 12; i++) {
            due(q.of(i, 3), i == 0 || i == 11 ? 1 : 0);
        }
        q.sing(1);
        due(q.count(3), 0);
        for (int i = 0; i < 12; i++) {
            due(q.of(i, 3), i == 0 || i == 11 || i == 5 ? 1 : 0);
        }
    }

    @Holds(promise = 7, says = "In a turn the next wish is sung: it leaves the queue, its singers have sung one turn more, "
            + "<they are tired then (nobody else is)>, and the length of the song passes.")
    static void nobodyElseIsTired() {
        Queue q = Evenings.with(12, 7);
        q.wish(11, 0, 0);
        q.sing(1);
        for (int i = 0; i < 12; i++) {
            due(q.of(i, 4), i == 0 || i == 11 ? 1 : 0);
        }
        q.wish(0, NONE, 0);
        q.sing(1);
        for (int i = 0; i < 12; i++) {
            due(q.of(i, 4), i == 0 ? 1 : 0);
        }
        q.sing(1);
        due(q.count(8), 1);
    }

    @Holds(promise = 7, says = "<In a turn the next wish is sung>: it leaves the queue, its singers have sung one turn more, "
            + "they are tired then (nobody else is), <and the length of the song passes>.")
    static void theLengthPasses() {
        Queue q = Evenings.with(2, 1, 9);
        q.wish(0, NONE, 0);
        q.wish(1, 0, 1);
        q.sing(1);
        due(q.count(6), 1);
        q.sing(1);
        due(q.count(6), 10);
        due(q.of(0, 6), 10);
        due(q.of(1, 6), 9);
    }

    @Holds(promise = 7, says = "A method that fails returns one of the error codes NO_SUCH (-1), BAD_VALUE (-2), BAD_TEXT (-3), "
            + "TOO_MANY (-4) and NOT_POSSIBLE (-5); it names its errors in the order in which they are checked, "
            + "and the first one that applies is returned.")
    static void nobodyReadyIsNoError() {
        Queue q = new Queue();
        due(q.sing(21), BAD_VALUE);
        due(q.sing(20), 0);
    }

    @Holds(promise = 7, says = "A call that returns an error changes nothing.")
    static void aRefusedSingChangesNothing() {
        refused(Evenings::nothing, q -> q.sing(0), BAD_VALUE);
        refused(Evenings::busy, q -> q.sing(21), BAD_VALUE);
        refused(Evenings::full, q -> q.sing(21), BAD_VALUE);
    }

    // ---- promise 8: read

    @Holds(promise = 8, says = "<Makes all wishes of the pad, one after the other>, and empties the pad.")
    static void oneWishIsRead() {
        Queue q = made(withPad(0, "1:1"));
        due(q.read(), 1);
        wishIs(q, 0, 1, NONE, 1);
    }

    @Holds(promise = 8, says = "<Makes all wishes of the pad, one after the other>, and empties the pad.")
    static void fifteenWishesAreRead() {
        Queue q = Evenings.with(12, 1, 1, 1, 1, 1, 1, 1, 1, 1, 1, 1, 1, 1, 1, 1, 1);
        q.write("0:1;1:2;2:3;3:4;4:5;5:6;6:7;7:8;8:9;9:0;0:1;1:2;2:3;3:4;4:15");
        due(q.count(9), 60);
        due(q.read(), 15);
        for (int i = 0; i < 14; i++) {
            wishIs(q, i, i % 10, NONE, (i + 1) % 10);
        }
        wishIs(q, 14, 4, NONE, 15);
        due(q.count(3), 15);
    }

    @Holds(promise = 8, says = "<Makes all wishes of the pad, one after the other>, and empties the pad.")
    static void wishesAreReadBehindThoseThatStand() {
        Queue q = made(withPad(3, "1+0:1;0:0;0+1:0"));
        due(q.read(), 6);
        wishIs(q, 2, 0, NONE, 0);
        wishIs(q, 3, 1, 0, 1);
        wishIs(q, 4, 0, NONE, 0);
        wishIs(q, 5, 0, 1, 0);
    }

    @Holds(promise = 8, says = "Makes all wishes of the pad, one after the other, <and empties the pad>.")
    static void thePadIsEmptyThen() {
        Queue q = made(withPad(5, Evenings.FULL_PAD.substring(0, 55)));
        due(q.count(9), 55);
        due(q.read(), 19);
        due(q.count(9), 0);
        due(q.fault(), 0);
        due(q.wipe(), 0);
        due(q.put('1'), 1);
        due(q.fault(), 1);
    }

    @Holds(promise = 8, says = "This is a change.")
    static void readIsAChange() {
        isChange(withPad(0, "0:0"), Queue::read);
        isChange(withPad(5, "0:0;".repeat(14) + "1+0:"), q -> {
            q.wipe();
            q.write("0:1;1:0");
            return q.read();
        });
        isChange(withPad(19, "0+1:1"), Queue::read);
    }

    @Holds(promise = 8, says = "<Returns how many wishes there are then>; BAD_TEXT if the pad has a fault; NO_SUCH, BAD_VALUE, "
            + "TOO_MANY, NOT_POSSIBLE as for wish(): of the first wish that has such an error, in their order.")
    static void upToTwentyWishesThen() {
        due(made(withPad(0, "0:0")).read(), 1);
        due(made(withPad(19, "0:0")).read(), 20);
        due(made(withPad(18, "0:0;1:1")).read(), 20);
        due(made(withPad(6, "0:0;".repeat(13) + "0:0")).read(), 20);
        due(made(withPad(0, "0:0;".repeat(14) + "0:0")).read(), 15);
        due(made(withPad(5, "0:0;".repeat(14) + "0:0")).read(), 20);
    }

    @Holds(promise = 8, says = "Returns how many wishes there are then; <BAD_TEXT if the pad has a fault>; NO_SUCH, BAD_VALUE, "
            + "TOO_MANY, NOT_POSSIBLE as for wish(): of the first wish that has such an error, in their order.")
    static void theEmptyPadIsRead() {
        for (Consumer<Queue> evening : ALL_EVENINGS) {
            refused(q -> {
                evening.accept(q);
                q.wipe();
            }, Queue::read, BAD_TEXT);
        }
        Queue q = made(withPad(0, "0:0"));
        due(q.read(), 1);
        due(q.read(), BAD_TEXT);
    }

    @Holds(promise = 8, says = "Returns how many wishes there are then; <BAD_TEXT if the pad has a fault>; NO_SUCH, BAD_VALUE, "
            + "TOO_MANY, NOT_POSSIBLE as for wish(): of the first wish that has such an error, in their order.")
    static void faultyPadsAreRead() {
        String[] faulty = {"x", "0", "0:", "0+", "0+1", "0+1:", "0:0;", ";0:0", "x:0", "0:x", "0:0x", "00:0", "0:00", "12:0", "0:16",
            "0+12:0", "0:0;0:0;0:0;0:0;0:0;x", "0:0;".repeat(15), "0:0;".repeat(14) + "0+1:", "0:0;".repeat(14) + "0:16"};
        for (String text : faulty) {
            refused(withPad(1, text), Queue::read, BAD_TEXT);
        }
        refused(Evenings::busy, Queue::read, BAD_TEXT);
    }

    @Holds(promise = 8, says = "Returns how many wishes there are then; BAD_TEXT if the pad has a fault; <NO_SUCH>, BAD_VALUE, "
            + "TOO_MANY, NOT_POSSIBLE <as for wish()>: of the first wish that has such an error, in their order.")
    static void nobodySuchIsRead() {
        due(made(withPad(0, "0:0;1:1")).read(), 2);
        for (String text : new String[] {"3:0", "11:0", "0+3:0", "3+0:0", "0+11:1", "0:2", "0:15", "3+3:0", "0:0;1:1;3:0"}) {
            refused(withPad(1, text), Queue::read, NO_SUCH);
        }
        refused(q -> q.write("0:0"), Queue::read, NO_SUCH);
    }

    @Holds(promise = 8, says = "Returns how many wishes there are then; BAD_TEXT if the pad has a fault; NO_SUCH, <BAD_VALUE>, "
            + "TOO_MANY, NOT_POSSIBLE <as for wish()>: of the first wish that has such an error, in their order.")
    static void aDuetOfOneIsRead() {
        for (String text : new String[] {"0+0:0", "1+1:1", "2+2:0", "0:0;0+1:0;1+1:0"}) {
            refused(withPad(1, text), Queue::read, BAD_VALUE);
        }
    }

    @Holds(promise = 8, says = "Returns how many wishes there are then; BAD_TEXT if the pad has a fault; NO_SUCH, BAD_VALUE, "
            + "<TOO_MANY>, NOT_POSSIBLE <as for wish()>: of the first wish that has such an error, in their order.")
    static void tooManyAreRead() {
        refused(withPad(20, "0:0"), Queue::read, TOO_MANY);
        refused(withPad(19, "0:0;0:0"), Queue::read, TOO_MANY);
        refused(withPad(18, "0:0;0:0;1:1"), Queue::read, TOO_MANY);
        refused(withPad(6, "0:0;".repeat(14) + "0:0"), Queue::read, TOO_MANY);
        refused(Evenings::full, Queue::read, TOO_MANY);
    }

    @Holds(promise = 8, says = "Returns how many wishes there are then; BAD_TEXT if the pad has a fault; NO_SUCH, BAD_VALUE, "
            + "TOO_MANY, <NOT_POSSIBLE as for wish()>: of the first wish that has such an error, in their order.")
    static void aWishWithoutAKeyIsRead() {
        for (String text : new String[] {"2:0", "2:1", "0+2:0", "2+0:0", "0:0;1:1;2:0"}) {
            refused(withPad(1, text), Queue::read, NOT_POSSIBLE);
        }
    }

    @Holds(promise = 8, says = "Returns how many wishes there are then; BAD_TEXT if the pad has a fault; NO_SUCH, BAD_VALUE, "
            + "TOO_MANY, NOT_POSSIBLE as for wish(): <of the first wish that has such an error>, in their order.")
    static void theFirstWishWithAnErrorAnswers() {
        refused(withPad(1, "2:0;3:0"), Queue::read, NOT_POSSIBLE);
        refused(withPad(1, "2:0;1+1:0"), Queue::read, NOT_POSSIBLE);
        refused(withPad(1, "1+1:0;3:0"), Queue::read, BAD_VALUE);
        refused(withPad(1, "3:0;1+1:0"), Queue::read, NO_SUCH);
        refused(withPad(1, "0:0;2:0;0:0;3:0"), Queue::read, NOT_POSSIBLE);
        refused(withPad(20, "0:0;3:0"), Queue::read, TOO_MANY);
        refused(withPad(19, "0:0;0:0;1+1:0"), Queue::read, TOO_MANY);
        refused(withPad(19, "2:0;0:0"), Queue::read, NOT_POSSIBLE);
    }

    @Holds(promise = 8, says = "Returns how many wishes there are then; BAD_TEXT if the pad has a fault; <NO_SUCH, BAD_VALUE, "
            + "TOO_MANY, NOT_POSSIBLE> as for wish(): of the first wish that has such an error, <in their order>.")
    static void errorsOfOneWishInTheirOrder() {
        refused(withPad(1, "3+3:0"), Queue::read, NO_SUCH);
        refused(withPad(1, "0+0:2"), Queue::read, NO_SUCH);
        refused(withPad(20, "3:0"), Queue::read, NO_SUCH);
        refused(withPad(20, "1+1:0"), Queue::read, BAD_VALUE);
        refused(withPad(1, "2+2:0"), Queue::read, BAD_VALUE);
        refused(withPad(20, "2:0"), Queue::read, TOO_MANY);
        refused(withPad(19, "2:0"), Queue::read, NOT_POSSIBLE);
    }

    @Holds(promise = 8, says = "A method that fails returns one of the error codes NO_SUCH (-1), BAD_VALUE (-2), BAD_TEXT (-3), "
            + "TOO_MANY (-4) and NOT_POSSIBLE (-5); <it names its errors in the order in which they are checked, "
            + "and the first one that applies is returned>.")
    static void aFaultIsAheadOfAllOtherErrors() {
        refused(withPad(1, "3:0;x"), Queue::read, BAD_TEXT);
        refused(withPad(1, "1+1:0;"), Queue::read, BAD_TEXT);
        refused(withPad(20, "0:0;0"), Queue::read, BAD_TEXT);
        refused(withPad(1, "2:0;2:"), Queue::read, BAD_TEXT);
    }

    @Holds(promise = 8, says = "There are up to 20 wishes that stand in the queue, in the order in which they were made "
            + "(when one has had its turn, or is taken back, those behind it move up).")
    static void theTwentiethWishIsRead() {
        Queue q = made(withPad(19, "1+0:1"));
        due(q.read(), 20);
        wishIs(q, 19, 1, 0, 1);
        q.write("1:1");
        due(q.read(), TOO_MANY);
        due(q.count(3), 20);
    }

    @Holds(promise = 8, says = "<A wish is one singer, or two different ones (a duet), and a song>, for which they have a key.")
    static void oneOrTwoAreRead() {
        Queue q = made(withPad(0, "0:0;0+1:1;1+0:1"));
        due(q.read(), 3);
        wishIs(q, 0, 0, NONE, 0);
        wishIs(q, 1, 0, 1, 1);
        wishIs(q, 2, 1, 0, 1);
        due(made(withPad(0, "1+1:1")).read(), BAD_VALUE);
    }

    @Holds(promise = 8, says = "The pad is a text of at most 60 characters, a row of wishes: text = wish { \";\" wish }; "
            + "wish = singer [ \"+\" singer ] \":\" song; <a singer is a number from 0 to 11, a song one from 0 to 15>, without leading zeros.")
    static void theLastSingerAndSongAreRead() {
        Queue q = Evenings.with(12, 1, 1, 1, 1, 1, 1, 1, 1, 1, 1, 1, 1, 1, 1, 1, 1);
        q.write("11+10:15;0+11:0;10:14;9+0:9;1:10");
        due(q.read(), 5);
        wishIs(q, 0, 11, 10, 15);
        wishIs(q, 1, 0, 11, 0);
        wishIs(q, 2, 10, NONE, 14);
        wishIs(q, 3, 9, 0, 9);
        wishIs(q, 4, 1, NONE, 10);
    }

    @Holds(promise = 8, says = "The fault is the index of the first character that cannot stand at its place when the text is read "
            + "from left to right (also of a digit by which a number would be too great; <whether both singers are the same, or are "
            + "there, does not matter>); if there is none and the text ends too early (also if it is empty), it is the length of the text.")
    static void whoHasLeftIsRead() {
        Queue q = made(withPad(0, "0:0;0+1:1"));
        q.leave(0, true);
        q.leave(1, true);
        due(q.fault(), NONE);
        due(q.read(), 2);
        due(q.count(4), 0);
    }

    @Holds(promise = 8, says = "A call that returns an error changes nothing.")
    static void aRefusedReadChangesNothing() {
        refused(Evenings::nothing, Queue::read, BAD_TEXT);
        refused(Evenings::busy, Queue::read, BAD_TEXT);
        refused(Evenings::full, Queue::read, TOO_MANY);
        refused(withPad(2, "0:0;0+1:1;0:2"), Queue::read, NO_SUCH);
        refused(withPad(2, "0:0;0+1:1;1+1:1"), Queue::read, BAD_VALUE);
        refused(withPad(2, "0:0;0+1:1;2:1"), Queue::read, NOT_POSSIBLE);
    }

    @Holds(promise = 8, says = "A song can be shifted by a key, <-6 to 6>: all of its tones become so much higher.")
    static void wishesAreReadWithKeysNotBeyond6() {
        Queue q = new Queue();
        q.singer(30, 30);
        int read = 0;
        for (int tone = 23; tone <= 37; tone++) {
            q.song(tone, tone, 1);
            q.write("0:" + (tone - 23));
            boolean fits = tone >= 24 && tone <= 36;
            read += fits ? 1 : 0;
            due(q.read(), fits ? read : NOT_POSSIBLE);
            q.wipe();
        }
        due(read, 13);
    }

    @Holds(promise = 8, says = "The key of a song for one or two singers is the one that fits all of them with the least size; "
            + "of two of a size the one that is not below 0; <there is none if none fits>.")
    static void aDuetIsReadForWhomNoneFits() {
        Queue q = new Queue();
        q.song(20, 30, 1);
        q.singer(21, 31);
        q.singer(19, 29);
        q.write("0:0;1:0");
        due(q.read(), 2);
        q.write("0+1:0");
        due(q.read(), NOT_POSSIBLE);
        due(q.count(3), 2);
        due(q.count(9), 5);
    }
}
