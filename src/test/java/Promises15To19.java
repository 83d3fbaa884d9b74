import java.util.function.Consumer;

/** Boundaries of turnOf, endOfAll, ifLeft, heldUpBy and together. */
final class Promises15To19 extends Checks {
    private Promises15To19() {
    }

    /** Twenty wishes of nine minutes: as many, and as long, as there can be. */
    private static void longest(Queue q) {
        Evenings.fill(q, 2, 9);
        for (int i = 0; i < 20; i++) {
            q.wish(i & 1, NONE, 0);
        }
    }

    /** One wish of 0, which is ready, and one of 1, who has left. */
    private static void oneOfTwoReady(Queue q) {
        Evenings.fill(q, 2, 3, 5);
        q.wish(0, NONE, 0);
        q.wish(1, NONE, 1);
        q.leave(1, true);
    }

    // ---- promise 15: turnOf

    @Holds(promise = 15, says = "Tells when a wish will have its turn, <if nothing else happens>.")
    static void turnOfIsWhatSingShows() {
        for (int wish = 0; wish < 20; wish++) {
            Queue asked = made(Evenings::full);
            int turns = asked.turnOf(wish, 0);
            int begin = asked.turnOf(wish, 1);
            int singer = asked.inQueue(wish, 0);
            int song = asked.inQueue(wish, 2);
            Queue q = made(Evenings::full);
            due(turns >= 0 && turns <= 19 ? 1 : 0, 1);
            if (turns > 0) {
                due(q.sing(turns), turns);
            }
            due(q.sing(1), 1);
            due(q.past(0, 0), singer);
            due(q.past(0, 2), song);
            due(q.past(0, 3), begin);
        }
    }

    @Holds(promise = 15, says = "<Tells when a wish will have its turn>, if nothing else happens.")
    static void turnOfTheOnlyWish() {
        Queue q = Evenings.with(1, 9);
        q.wish(0, NONE, 0);
        due(q.turnOf(0, 0), 0);
        due(q.turnOf(0, 1), 0);
        q.sing(1);
        due(q.turnOf(0, 0), NO_SUCH);
        q.wish(0, NONE, 0);
        due(q.turnOf(0, 0), 0);
        due(q.turnOf(0, 1), 9);
    }

    @Holds(promise = 15, says = "Ahead of the calls `turnOf`, `endOfAll`, `ifLeft`, `heldUpBy`, `together` the interface says: "
            + "---- what will be; nothing changes.")
    static void turnOfChangesNothing() {
        int[][] told = {{1, 10}, {2, 14}, {NONE, NONE}, {0, 7}};
        for (int wish = 0; wish < told.length; wish++) {
            for (int what = 0; what <= 1; what++) {
                int place = wish;
                int asked = what;
                tells(Evenings::busy, q -> q.turnOf(place, asked), told[wish][what]);
            }
        }
        tells(Promises15To19::longest, q -> q.turnOf(19, 1), 171);
    }

    @Holds(promise = 15, says = "`what`: 0 in how many turns <(0: it is the next one)>, 1 at which minute it begins")
    static void turnOfTheNextOneIs0() {
        Queue q = Evenings.with(3, 2);
        q.wishes(2, 0, NONE, 0);
        q.wish(1, NONE, 0);
        due(q.turnOf(0, 0), 0);
        due(q.count(5), 0);
        q.sing(1);
        due(q.count(5), 1);
        due(q.turnOf(1, 0), 0);
        due(q.turnOf(0, 0), 1);
    }

    @Holds(promise = 15, says = "<`what`: 0 in how many turns> (0: it is the next one), 1 at which minute it begins")
    static void turnOfTheLastOfTwenty() {
        Queue q = made(Promises15To19::longest);
        for (int i = 0; i < 20; i++) {
            due(q.turnOf(i, 0), i);
        }
        Queue one = Evenings.with(1, 1);
        one.wishes(20, 0, NONE, 0);
        due(one.turnOf(19, 0), 19);
        due(one.turnOf(19, 1), 19);
    }

    @Holds(promise = 15, says = "`what`: 0 in how many turns (0: it is the next one), <1 at which minute it begins>")
    static void turnOfTheMinute() {
        Queue q = made(Promises15To19::longest);
        for (int i = 0; i < 20; i++) {
            due(q.turnOf(i, 1), 9 * i);
        }
        q.sing(1);
        due(q.turnOf(0, 1), 9);
        due(q.turnOf(18, 1), 171);
    }

    @Holds(promise = 15, says = "<Returns the number; NO_SUCH if there is no such wish>; BAD_VALUE if what is neither 0 nor 1; "
            + "NONE if it is not ready.")
    static void turnOfNoSuchWish() {
        refused(Evenings::nothing, q -> q.turnOf(0, 0), NO_SUCH);
        refused(Evenings::nothing, q -> q.turnOf(0, 1), NO_SUCH);
        due(made(Promises15To19::longest).turnOf(19, 0), 19);
        for (int nothing : outside(0, 3)) {
            refused(Evenings::busy, q -> q.turnOf(nothing, 0), NO_SUCH);
        }
        for (int nothing : outside(0, 19)) {
            refused(Evenings::full, q -> q.turnOf(nothing, 1), NO_SUCH);
        }
    }

    @Holds(promise = 15, says = "Returns the number; NO_SUCH if there is no such wish; <BAD_VALUE if what is neither 0 nor 1>; "
            + "NONE if it is not ready.")
    static void turnOfNothingKnown() {
        for (int what : outside(0, 1)) {
            refused(Evenings::busy, q -> q.turnOf(0, what), BAD_VALUE);
            refused(Evenings::full, q -> q.turnOf(19, what), BAD_VALUE);
        }
    }

    @Holds(promise = 15, says = "Returns the number; NO_SUCH if there is no such wish; BAD_VALUE if what is neither 0 nor 1; "
            + "<NONE if it is not ready>.")
    static void turnOfOneThatIsNotReady() {
        tells(Promises15To19::oneOfTwoReady, q -> q.turnOf(1, 0), NONE);
        tells(Promises15To19::oneOfTwoReady, q -> q.turnOf(1, 1), NONE);
        tells(Promises15To19::oneOfTwoReady, q -> q.turnOf(0, 0), 0);
        Queue q = Evenings.with(2, 1);
        q.wish(0, 1, 0);
        due(q.turnOf(0, 0), 0);
        q.leave(1, true);
        due(q.turnOf(0, 0), NONE);
        q.leave(0, true);
        q.leave(1, false);
        due(q.turnOf(0, 0), NONE);
    }

    @Holds(promise = 15, says = "A method that fails returns one of the error codes NO_SUCH (-1), BAD_VALUE (-2), BAD_TEXT (-3), "
            + "TOO_MANY (-4) and NOT_POSSIBLE (-5); <it names its errors in the order in which they are checked, "
            + "and the first one that applies is returned>.")
    static void turnOfErrorsInTheirOrder() {
        refused(Evenings::nothing, q -> q.turnOf(0, 2), NO_SUCH);
        refused(Evenings::busy, q -> q.turnOf(4, -1), NO_SUCH);
    }

    @Holds(promise = 15, says = "NONE (-6) is not an error; <it is returned only if no error applies>.")
    static void turnOfNoneOnlyIfNoErrorApplies() {
        refused(Promises15To19::oneOfTwoReady, q -> q.turnOf(1, 2), BAD_VALUE);
        refused(Promises15To19::oneOfTwoReady, q -> q.turnOf(1, -1), BAD_VALUE);
        refused(Promises15To19::oneOfTwoReady, q -> q.turnOf(2, 0), NO_SUCH);
    }

    @Holds(promise = 15, says = "A wish is ready if all of its singers are there.")
    static void turnOfPassesOverWhatIsNotReady() {
        Queue q = Evenings.with(3, 4, 9);
        q.wish(0, NONE, 0);
        q.wish(1, 2, 1);
        q.wish(2, NONE, 0);
        due(q.turnOf(2, 0), 2);
        due(q.turnOf(2, 1), 13);
        q.leave(1, true);
        due(q.turnOf(2, 0), 1);
        due(q.turnOf(2, 1), 4);
    }

    @Holds(promise = 15, says = "The singers of the latest turn are tired: <a wish is fresh if none of its singers is tired>.")
    static void turnOfWhoIsTiredNow() {
        Queue q = Evenings.with(3, 1);
        q.wish(2, NONE, 0);
        q.wish(0, NONE, 0);
        q.wish(1, NONE, 0);
        q.sing(3);
        q.wish(1, NONE, 0);
        q.wish(0, NONE, 0);
        due(q.turnOf(0, 0), 1);
        due(q.turnOf(1, 0), 0);
    }

    @Holds(promise = 15, says = "The next wish is, of those that are ready and fresh, <the one with the fewest turns that its "
            + "singers sang so far> (of a duet: those of the one who sang more); of several the earliest one.")
    static void turnOfCountsTheTurnsAhead() {
        // each pair of singers has its own place in the counts: the first one and the last one, too
        for (int one = 0; one < 12; one++) {
            Queue q = Evenings.with(12, 1);
            int other = (one + 1) % 12;
            int third = (one + 2) % 12;
            q.wish(one, other, 0);
            q.wish(third, NONE, 0);
            q.wish(one, NONE, 0);
            q.wish((one + 3) % 12, NONE, 0);
            due(q.turnOf(0, 0), 0);
            due(q.turnOf(1, 0), 1);
            due(q.turnOf(2, 0), 3);
            due(q.turnOf(3, 0), 2);
        }
    }

    @Holds(promise = 15, says = "If none is ready and fresh, it is found so among those that are ready.")
    static void turnOfOneSingerAlone() {
        Queue q = Evenings.with(1, 1, 2, 3);
        q.wish(0, NONE, 2);
        q.wish(0, NONE, 1);
        q.wish(0, NONE, 0);
        due(q.turnOf(0, 1), 0);
        due(q.turnOf(1, 1), 3);
        due(q.turnOf(2, 1), 5);
    }

    @Holds(promise = 15, says = "A call that returns an error changes nothing.")
    static void aRefusedTurnOfChangesNothing() {
        refused(Evenings::nothing, q -> q.turnOf(0, 0), NO_SUCH);
        refused(Evenings::busy, q -> q.turnOf(0, 2), BAD_VALUE);
        refused(Evenings::full, q -> q.turnOf(20, 1), NO_SUCH);
    }

    @Holds(promise = 15, says = "Time is in minutes, <0 at first>.")
    static void turnOfBeginsAt0AtFirst() {
        Queue q = Evenings.with(2, 9);
        q.wish(0, NONE, 0);
        q.wish(1, NONE, 0);
        due(q.turnOf(0, 1), 0);
        due(q.turnOf(1, 1), 9);
    }

    // ---- promise 16: endOfAll

    @Holds(promise = 16, says = "Returns the minute at which <all that is ready will have been sung>, if nothing else happens.")
    static void endOfAllOfTwenty() {
        Queue q = made(Promises15To19::longest);
        due(q.endOfAll(), 180);
        q.sing(19);
        due(q.endOfAll(), 180);
        q.sing(20);
        due(q.endOfAll(), 180);
        due(q.count(6), 180);
    }

    @Holds(promise = 16, says = "Returns the minute at which <all that is ready> will have been sung, if nothing else happens.")
    static void endOfAllWithoutWishes() {
        due(new Queue().endOfAll(), 0);
        Queue q = Evenings.with(1, 9);
        due(q.endOfAll(), 0);
        q.wish(0, NONE, 0);
        due(q.endOfAll(), 9);
        q.takeBack(0);
        due(q.endOfAll(), 0);
    }

    @Holds(promise = 16, says = "Returns the minute at which <all that is ready> will have been sung, if nothing else happens.")
    static void endOfAllThatIsReadyAlone() {
        Queue q = made(Promises15To19::oneOfTwoReady);
        due(q.endOfAll(), 3);
        q.leave(0, true);
        due(q.endOfAll(), 0);
        q.leave(1, false);
        due(q.endOfAll(), 5);
        q.leave(0, false);
        due(q.endOfAll(), 8);
        q.wish(0, 1, 1);
        due(q.endOfAll(), 13);
        q.leave(1, true);
        due(q.endOfAll(), 3);
    }

    @Holds(promise = 16, says = "Returns the minute at which all that is ready will have been sung, <if nothing else happens>.")
    static void endOfAllIsWhatSingShows() {
        for (Consumer<Queue> evening : ALL_EVENINGS) {
            int end = made(evening).endOfAll();
            Queue q = made(evening);
            q.sing(20);
            due(q.count(6), end);
        }
    }

    @Holds(promise = 16, says = "<Returns the minute at which all that is ready will have been sung>, if nothing else happens.")
    static void endOfAllCountsWhatWasSung() {
        Queue q = Evenings.with(1, 9, 1);
        for (int i = 0; i < 5; i++) {
            q.wishes(20, 0, NONE, 0);
            q.sing(20);
        }
        due(q.endOfAll(), 900);
        q.wish(0, NONE, 1);
        due(q.endOfAll(), 901);
        q.leave(0, true);
        due(q.endOfAll(), 900);
    }

    @Holds(promise = 16, says = "Ahead of the calls `turnOf`, `endOfAll`, `ifLeft`, `heldUpBy`, `together` the interface says: "
            + "---- what will be; nothing changes.")
    static void endOfAllChangesNothing() {
        tells(Evenings::nothing, Queue::endOfAll, 0);
        tells(Evenings::busy, Queue::endOfAll, 16);
        tells(Promises15To19::longest, Queue::endOfAll, 180);
    }

    @Holds(promise = 16, says = "If none is ready, there is none.")
    static void endOfAllIsNowIfNoneIsReady() {
        Queue q = Evenings.with(2, 4);
        q.wishes(3, 0, NONE, 0);
        q.sing(1);
        q.leave(0, true);
        due(q.count(5), NONE);
        due(q.endOfAll(), 4);
    }

    @Holds(promise = 16, says = "Time is in minutes, <0 at first>.")
    static void endOfAllIs0AtFirst() {
        due(new Queue().endOfAll(), 0);
    }

    @Holds(promise = 16, says = "A wish is ready if all of its singers are there.")
    static void endOfAllOfDuets() {
        Queue q = Evenings.with(12, 4, 9);
        q.wish(0, 11, 0);
        q.wish(5, NONE, 1);
        due(q.endOfAll(), 13);
        q.leave(11, true);
        due(q.endOfAll(), 9);
        q.leave(5, true);
        due(q.endOfAll(), 0);
    }

    // ---- promise 17: ifLeft

    @Holds(promise = 17, says = "Tells <how many wishes would not be ready> (with those that are not ready now), "
            + "<if a singer left> (who is there; otherwise as it is).")
    static void ifLeftFromNoneToTwenty() {
        Queue q = Evenings.with(3, 1);
        for (int i = 0; i < 20; i++) {
            due(q.ifLeft(0), i);
            q.wish(i % 2 == 0 ? 0 : 1, i % 2 == 0 ? NONE : 0, 0);
        }
        due(q.ifLeft(0), 20);
        due(q.ifLeft(1), 10);
        due(q.ifLeft(2), 0);
    }

    @Holds(promise = 17, says = "Tells how many wishes would not be ready <(with those that are not ready now)>, "
            + "if a singer left (who is there; otherwise as it is).")
    static void ifLeftWithThoseNotReadyNow() {
        Queue q = Evenings.with(3, 1);
        q.wish(0, NONE, 0);
        q.wish(1, NONE, 0);
        q.wish(0, 1, 0);
        q.wish(2, NONE, 0);
        due(q.ifLeft(0), 2);
        q.leave(1, true);
        // the duet is not ready already, and counts once
        due(q.ifLeft(0), 3);
        due(q.ifLeft(2), 3);
        q.leave(0, true);
        due(q.ifLeft(2), 4);
    }

    @Holds(promise = 17, says = "<Tells how many wishes would not be ready> (with those that are not ready now), "
            + "if a singer left <(who is there; otherwise as it is)>.")
    static void ifLeftWhoHasLeft() {
        Queue q = Evenings.with(3, 1);
        q.wish(0, NONE, 0);
        q.wish(1, NONE, 0);
        q.leave(0, true);
        due(q.ifLeft(0), 1);
        due(q.ifLeft(1), 2);
        due(q.ifLeft(2), 1);
        q.leave(1, true);
        for (int i = 0; i < 3; i++) {
            due(q.ifLeft(i), 2);
        }
        due(q.count(1), 0b100);
    }

    @Holds(promise = 17, says = "Returns how many; <NO_SUCH if there is no such singer>.")
    static void ifLeftNobody() {
        refused(Evenings::nothing, q -> q.ifLeft(0), NO_SUCH);
        due(made(Evenings::busy).ifLeft(3), 1);
        for (int nobody : outside(0, 3)) {
            refused(Evenings::busy, q -> q.ifLeft(nobody), NO_SUCH);
        }
        for (int nobody : outside(0, 11)) {
            refused(Evenings::full, q -> q.ifLeft(nobody), NO_SUCH);
        }
    }

    @Holds(promise = 17, says = "<Returns how many>; NO_SUCH if there is no such singer.")
    static void ifLeftTheFirstOrTheLast() {
        Queue q = Evenings.with(12, 1);
        due(q.ifLeft(0), 0);
        due(q.ifLeft(11), 0);
        q.wish(11, NONE, 0);
        due(q.ifLeft(11), 1);
        due(q.ifLeft(0), 0);
        q.wish(0, 11, 0);
        due(q.ifLeft(11), 2);
        due(q.ifLeft(0), 1);
    }

    @Holds(promise = 17, says = "Ahead of the calls `turnOf`, `endOfAll`, `ifLeft`, `heldUpBy`, `together` the interface says: "
            + "---- what will be; nothing changes.")
    static void ifLeftChangesNothing() {
        int[] told = {3, 2, 3, 1};
        for (int i = 0; i < told.length; i++) {
            int singer = i;
            tells(Evenings::busy, q -> q.ifLeft(singer), told[i]);
        }
    }

    @Holds(promise = 17, says = "A wish is ready if all of its singers are there.")
    static void ifLeftEitherOfADuet() {
        Queue q = Evenings.with(3, 1);
        q.wish(0, 1, 0);
        due(q.ifLeft(0), 1);
        due(q.ifLeft(1), 1);
        due(q.ifLeft(2), 0);
    }

    @Holds(promise = 17, says = "A call that returns an error changes nothing.")
    static void aRefusedIfLeftChangesNothing() {
        refused(Evenings::nothing, q -> q.ifLeft(0), NO_SUCH);
        refused(Evenings::busy, q -> q.ifLeft(4), NO_SUCH);
        refused(Evenings::full, q -> q.ifLeft(12), NO_SUCH);
    }

    // ---- promise 18: heldUpBy

    @Holds(promise = 18, says = "<Finds the wish> (of all others, ready or not) <without which another one would have its turn "
            + "the most minutes earlier>; of several the lowest one.")
    static void heldUpByTheLongest() {
        for (int longest = 0; longest < 3; longest++) {
            Queue q = Evenings.with(4, 8, 9);
            for (int i = 0; i < 4; i++) {
                q.wish(i, NONE, i == longest ? 1 : 0);
            }
            due(q.heldUpBy(3, 0), longest);
            due(q.heldUpBy(3, 1), 9);
        }
    }

    @Holds(promise = 18, says = "<Finds the wish> (of all others, ready or not) <without which another one would have its turn "
            + "the most minutes earlier>; of several the lowest one.")
    static void heldUpByMoreThanItsOwnLength() {
        // 0 is tired: without 1, who goes ahead of it, nothing is fresh, and 0 sings at once
        Queue q = Evenings.with(4, 1, 2);
        q.wish(0, NONE, 0);
        q.wish(2, NONE, 0);
        q.wish(3, NONE, 0);
        q.sing(3);
        q.wish(3, NONE, 0);
        q.wish(1, NONE, 0);
        q.wish(0, NONE, 1);
        // 1 never sang: 1 at 3, then 3 at 4, then 0 at 5; without 1: 0 at 3 and 3 at 5
        due(q.turnOf(2, 1), 5);
        due(q.turnOf(0, 1), 4);
        due(q.heldUpBy(2, 0), 1);
        due(q.heldUpBy(2, 1), 2);
        // 3 begins later without 1, and no earlier without 0
        due(q.heldUpBy(0, 0), 2);
        due(q.heldUpBy(0, 1), 0);
    }

    @Holds(promise = 18, says = "Finds the wish <(of all others, ready or not)> without which another one would have its turn "
            + "the most minutes earlier; of several the lowest one.")
    static void heldUpByOneThatIsNotReady() {
        Queue q = Evenings.with(3, 4);
        q.wish(1, NONE, 0);
        q.wish(0, NONE, 0);
        q.leave(1, true);
        due(q.heldUpBy(1, 0), 0);
        due(q.heldUpBy(1, 1), 0);
        q.wish(2, NONE, 0);
        // 2 waits for 0, who is at place 1; the one at place 0 holds up nobody
        due(q.heldUpBy(2, 0), 1);
        due(q.heldUpBy(2, 1), 4);
        due(q.heldUpBy(0, 0), NONE);
    }

    @Holds(promise = 18, says = "Finds the wish <(of all others>, ready or not) without which another one would have its turn "
            + "the most minutes earlier; of several the lowest one.")
    static void heldUpByAnotherOneNeverByItself() {
        Queue q = made(Promises15To19::longest);
        for (int i = 0; i < 20; i++) {
            int by = q.heldUpBy(i, 0);
            due(by != i && by >= 0 && by < 20 ? 1 : 0, 1);
            // from wish 3 on it is the second turn of the same singer: without it the one of wish i comes two turns earlier
            due(by, i == 0 ? 1 : i < 3 ? 0 : i % 2 == 0 ? 2 : 1);
            due(q.heldUpBy(i, 1), i == 0 ? 0 : i < 3 ? 9 : 18);
        }
    }

    @Holds(promise = 18, says = "Finds the wish (of all others, ready or not) without which another one would have its turn "
            + "the most minutes earlier; <of several the lowest one>.")
    static void heldUpByTheLowestOfSeveral() {
        Queue q = Evenings.with(4, 9, 5);
        q.wish(0, NONE, 1);
        q.wish(1, NONE, 0);
        q.wish(2, NONE, 0);
        q.wish(3, NONE, 1);
        due(q.heldUpBy(3, 0), 1);
        due(q.heldUpBy(3, 1), 9);
        q.takeBack(1);
        due(q.heldUpBy(2, 0), 1);
        q.takeBack(1);
        due(q.heldUpBy(1, 0), 0);
        due(q.heldUpBy(1, 1), 5);
    }

    @Holds(promise = 18, says = "`wish`: the other one")
    static void heldUpByForTheFirstAndTheLastWish() {
        Queue q = made(Promises15To19::longest);
        due(q.heldUpBy(0, 1), 0);
        due(q.heldUpBy(19, 1), 18);
        due(q.heldUpBy(-1, 1), NO_SUCH);
        due(q.heldUpBy(20, 1), NO_SUCH);
    }

    @Holds(promise = 18, says = "<`what`: 0 the wish that holds it up>, 1 how many minutes earlier (0 or less if none does)")
    static void heldUpByTheLastOfTwenty() {
        Queue q = Evenings.with(2, 1, 9);
        q.wishes(18, 0, NONE, 0);
        q.wish(0, NONE, 0);
        q.wish(1, NONE, 1);
        // 0, then 1, then 0 again and again
        due(q.turnOf(18, 1), 27);
        due(q.heldUpBy(18, 0), 19);
        due(q.heldUpBy(18, 1), 9);
        due(q.heldUpBy(2, 0), 19);
        due(q.heldUpBy(19, 0), 0);
        // without the first one the second one is sung at once, ahead of 1
        due(q.heldUpBy(1, 0), 0);
        due(q.heldUpBy(1, 1), 10);
    }

    @Holds(promise = 18, says = "`what`: 0 the wish that holds it up, <1 how many minutes earlier> (0 or less if none does)")
    static void heldUpByFrom1To9Minutes() {
        for (int length = 1; length <= 9; length++) {
            Queue q = Evenings.with(2, length);
            q.wish(0, NONE, 0);
            q.wish(1, NONE, 0);
            due(q.heldUpBy(1, 0), 0);
            due(q.heldUpBy(1, 1), length);
            due(q.heldUpBy(0, 1), 0);
        }
    }

    @Holds(promise = 18, says = "`what`: 0 the wish that holds it up, 1 how many minutes earlier <(0 or less if none does)>")
    static void heldUpByNone() {
        Queue q = Evenings.with(3, 7);
        q.wish(0, NONE, 0);
        q.wish(1, NONE, 0);
        q.wish(2, NONE, 0);
        due(q.heldUpBy(0, 1), 0);
        due(q.heldUpBy(0, 0), 1);
        q.leave(0, true);
        due(q.heldUpBy(1, 1), 0);
        due(q.heldUpBy(1, 0), 0);
    }

    @Holds(promise = 18, says = "<Returns the number; NO_SUCH if there is no such wish>; BAD_VALUE if what is neither 0 nor 1; "
            + "NONE if the other one is not ready, or is alone in the queue.")
    static void heldUpByForNoSuchWish() {
        refused(Evenings::nothing, q -> q.heldUpBy(0, 0), NO_SUCH);
        refused(Evenings::nothing, q -> q.heldUpBy(0, 1), NO_SUCH);
        for (int nothing : outside(0, 3)) {
            refused(Evenings::busy, q -> q.heldUpBy(nothing, 0), NO_SUCH);
        }
        for (int nothing : outside(0, 19)) {
            refused(Evenings::full, q -> q.heldUpBy(nothing, 1), NO_SUCH);
        }
    }

    @Holds(promise = 18, says = "Returns the number; NO_SUCH if there is no such wish; <BAD_VALUE if what is neither 0 nor 1>; "
            + "NONE if the other one is not ready, or is alone in the queue.")
    static void heldUpByNothingKnown() {
        for (int what : outside(0, 1)) {
            refused(Evenings::busy, q -> q.heldUpBy(0, what), BAD_VALUE);
            refused(Evenings::full, q -> q.heldUpBy(19, what), BAD_VALUE);
        }
    }

    @Holds(promise = 18, says = "Returns the number; NO_SUCH if there is no such wish; BAD_VALUE if what is neither 0 nor 1; "
            + "<NONE if the other one is not ready>, or is alone in the queue.")
    static void heldUpByForOneThatIsNotReady() {
        tells(Promises15To19::oneOfTwoReady, q -> q.heldUpBy(1, 0), NONE);
        tells(Promises15To19::oneOfTwoReady, q -> q.heldUpBy(1, 1), NONE);
        tells(Promises15To19::oneOfTwoReady, q -> q.heldUpBy(0, 0), 1);
        Queue q = Evenings.with(3, 1);
        q.wish(2, NONE, 0);
        q.wish(0, 1, 0);
        due(q.heldUpBy(1, 0), 0);
        q.leave(1, true);
        due(q.heldUpBy(1, 0), NONE);
    }

    @Holds(promise = 18, says = "Returns the number; NO_SUCH if there is no such wish; BAD_VALUE if what is neither 0 nor 1; "
            + "NONE if the other one is not ready, <or is alone in the queue>.")
    static void heldUpByForOneAlone() {
        Consumer<Queue> alone = q -> {
            Evenings.fill(q, 2, 3);
            q.wish(0, NONE, 0);
        };
        tells(alone, q -> q.heldUpBy(0, 0), NONE);
        tells(alone, q -> q.heldUpBy(0, 1), NONE);
        Queue q = made(alone);
        q.wish(1, NONE, 0);
        due(q.heldUpBy(0, 0), 1);
        due(q.heldUpBy(0, 1), 0);
        q.leave(1, true);
        due(q.heldUpBy(0, 0), 1);
        q.takeBack(1);
        due(q.heldUpBy(0, 0), NONE);
        q.leave(0, true);
        due(q.heldUpBy(0, 0), NONE);
    }

    @Holds(promise = 18, says = "A method that fails returns one of the error codes NO_SUCH (-1), BAD_VALUE (-2), BAD_TEXT (-3), "
            + "TOO_MANY (-4) and NOT_POSSIBLE (-5); <it names its errors in the order in which they are checked, "
            + "and the first one that applies is returned>.")
    static void heldUpByErrorsInTheirOrder() {
        refused(Evenings::nothing, q -> q.heldUpBy(0, 2), NO_SUCH);
        refused(Evenings::busy, q -> q.heldUpBy(4, -1), NO_SUCH);
    }

    @Holds(promise = 18, says = "NONE (-6) is not an error; <it is returned only if no error applies>.")
    static void heldUpByNoneOnlyIfNoErrorApplies() {
        refused(Promises15To19::oneOfTwoReady, q -> q.heldUpBy(1, 2), BAD_VALUE);
        refused(q -> {
            Evenings.fill(q, 1, 1);
            q.wish(0, NONE, 0);
        }, q -> q.heldUpBy(0, 2), BAD_VALUE);
    }

    @Holds(promise = 18, says = "Ahead of the calls `turnOf`, `endOfAll`, `ifLeft`, `heldUpBy`, `together` the interface says: "
            + "---- what will be; nothing changes.")
    static void heldUpByChangesNothing() {
        int[][] told = {{3, 1}, {3, 7}, {NONE, NONE}, {0, 0}};
        for (int wish = 0; wish < told.length; wish++) {
            for (int what = 0; what <= 1; what++) {
                int place = wish;
                int asked = what;
                tells(Evenings::busy, q -> q.heldUpBy(place, asked), told[wish][what]);
            }
        }
        tells(Promises15To19::longest, q -> q.heldUpBy(19, 1), 18);
    }

    @Holds(promise = 18, says = "The next wish is, <of those that are ready and fresh>, the one with the fewest turns that its "
            + "singers sang so far (of a duet: those of the one who sang more); of several the earliest one.")
    static void heldUpByOneBehindIt() {
        // 0 is tired, so that 1, who wished later and sang as often, goes ahead
        Queue q = Evenings.with(2, 2, 6);
        q.wish(1, NONE, 0);
        q.wish(0, NONE, 0);
        q.sing(2);
        q.wish(0, NONE, 0);
        q.wish(1, NONE, 1);
        due(q.turnOf(0, 1), 10);
        due(q.heldUpBy(0, 0), 1);
        due(q.heldUpBy(0, 1), 6);
        due(q.heldUpBy(1, 1), 0);
    }

    @Holds(promise = 18, says = "A wish is ready if all of its singers are there.")
    static void heldUpByADuetThatIsReady() {
        Queue q = Evenings.with(3, 5);
        q.wish(0, 1, 0);
        q.wish(2, NONE, 0);
        due(q.heldUpBy(1, 1), 5);
        q.leave(1, true);
        due(q.heldUpBy(1, 1), 0);
        due(q.heldUpBy(0, 1), NONE);
    }

    @Holds(promise = 18, says = "A call that returns an error changes nothing.")
    static void aRefusedHeldUpByChangesNothing() {
        refused(Evenings::nothing, q -> q.heldUpBy(0, 0), NO_SUCH);
        refused(Evenings::busy, q -> q.heldUpBy(0, 2), BAD_VALUE);
        refused(Evenings::full, q -> q.heldUpBy(20, 1), NO_SUCH);
    }

    @Holds(promise = 18, says = "The singers of the latest turn are tired: <a wish is fresh if none of its singers is tired>.")
    static void heldUpByTheOneAfterWhichAnotherIsFresh() {
        // 0 is tired; without 1, who goes between, 0 is next at once, as nobody is fresh
        Queue q = Evenings.with(2, 3);
        q.wish(1, NONE, 0);
        q.wish(0, NONE, 0);
        q.sing(2);
        q.wish(0, NONE, 0);
        q.wish(0, NONE, 0);
        q.wish(1, NONE, 0);
        due(q.turnOf(0, 1), 9);
        due(q.turnOf(1, 1), 12);
        due(q.heldUpBy(1, 0), 0);
        due(q.heldUpBy(1, 1), 3);
        due(q.heldUpBy(0, 0), 2);
        due(q.heldUpBy(0, 1), 3);
    }

    @Holds(promise = 18, says = "If none is ready and fresh, it is found so among those that are ready.")
    static void heldUpByAmongTiredOnes() {
        Queue q = Evenings.with(2, 1, 6);
        q.wish(0, 1, 0);
        q.sing(1);
        q.wish(1, 0, 1);
        q.wish(0, NONE, 0);
        due(q.turnOf(1, 1), 7);
        due(q.heldUpBy(1, 0), 0);
        due(q.heldUpBy(1, 1), 6);
    }

    // ---- promise 19: together

    @Holds(promise = 19, says = "Returns how many songs have a key for two singers together.")
    static void togetherFromNoneToSixteen() {
        Queue q = new Queue();
        q.singers(12, 20, 40);
        for (int i = 0; i < 16; i++) {
            due(q.together(0, 11), i);
            due(q.together(11, 0), i);
            q.song(25, 35, 1);
        }
        due(q.together(0, 11), 16);
    }

    @Holds(promise = 19, says = "Returns how many songs have a key for two singers together.")
    static void togetherWithOneKeyForBoth() {
        Queue q = new Queue();
        q.singer(20, 31);
        q.singer(22, 33);
        q.singer(21, 33);
        q.song(20, 30, 1);
        // both have a key: 0 the keys 0 and 1, 1 the keys 2 and 3, 2 the keys 1 to 3
        due(q.together(0, 1), 0);
        due(q.together(0, 2), 1);
        due(q.together(1, 2), 1);
    }

    @Holds(promise = 19, says = "<Returns how many>; NO_SUCH if there is no such singer; BAD_VALUE if both are the same.")
    static void togetherNoneOrAll() {
        Queue q = new Queue();
        q.singer(0, 29);
        q.singer(31, 60);
        q.singer(0, 60);
        due(q.together(0, 1), 0);
        q.songs(16, 25, 35, 1);
        due(q.together(0, 1), 0);
        due(q.together(0, 2), 16);
        due(q.together(1, 2), 16);
        q.leave(2, true);
        due(q.together(1, 2), 16);
    }

    @Holds(promise = 19, says = "Returns how many; <NO_SUCH if there is no such singer>; BAD_VALUE if both are the same.")
    static void togetherWithNobody() {
        refused(Evenings::nothing, q -> q.together(0, 1), NO_SUCH);
        refused(q -> q.singer(0, 60), q -> q.together(0, 1), NO_SUCH);
        for (int nobody : outside(0, 3)) {
            refused(Evenings::busy, q -> q.together(0, nobody), NO_SUCH);
            refused(Evenings::busy, q -> q.together(nobody, 3), NO_SUCH);
        }
        for (int nobody : outside(0, 11)) {
            refused(Evenings::full, q -> q.together(11, nobody), NO_SUCH);
        }
    }

    @Holds(promise = 19, says = "Returns how many; NO_SUCH if there is no such singer; <BAD_VALUE if both are the same>.")
    static void togetherWithHimself() {
        refused(q -> q.singer(0, 60), q -> q.together(0, 0), BAD_VALUE);
        refused(Evenings::busy, q -> q.together(3, 3), BAD_VALUE);
        refused(Evenings::full, q -> q.together(11, 11), BAD_VALUE);
    }

    @Holds(promise = 19, says = "A method that fails returns one of the error codes NO_SUCH (-1), BAD_VALUE (-2), BAD_TEXT (-3), "
            + "TOO_MANY (-4) and NOT_POSSIBLE (-5); <it names its errors in the order in which they are checked, "
            + "and the first one that applies is returned>.")
    static void togetherErrorsInTheirOrder() {
        refused(Evenings::nothing, q -> q.together(0, 0), NO_SUCH);
        refused(Evenings::busy, q -> q.together(4, 4), NO_SUCH);
        refused(Evenings::busy, q -> q.together(NONE, NONE), NO_SUCH);
        refused(Evenings::full, q -> q.together(12, 12), NO_SUCH);
    }

    @Holds(promise = 19, says = "Ahead of the calls `turnOf`, `endOfAll`, `ifLeft`, `heldUpBy`, `together` the interface says: "
            + "---- what will be; nothing changes.")
    static void togetherChangesNothing() {
        tells(Evenings::busy, q -> q.together(0, 1), 1);
        tells(Evenings::busy, q -> q.together(0, 2), 3);
        tells(Evenings::full, q -> q.together(0, 11), 16);
    }

    @Holds(promise = 19, says = "A song can be shifted by a key, <-6 to 6>: all of its tones become so much higher.")
    static void togetherKeysNotBeyond6() {
        Queue q = new Queue();
        q.singer(30, 30);
        q.singer(0, 60);
        for (int tone = 23; tone <= 37; tone++) {
            q.song(tone, tone, 1);
        }
        due(q.together(0, 1), 13);
        due(q.together(1, 0), 13);
    }

    @Holds(promise = 19, says = "The key of a song for one or two singers is the one that fits all of them with the least size; "
            + "of two of a size the one that is not below 0; <there is none if none fits>.")
    static void togetherVoicesThatTouch() {
        Queue q = new Queue();
        q.singer(0, 30);
        q.singer(30, 60);
        q.singer(31, 60);
        q.song(30, 30, 1);
        q.song(30, 31, 1);
        due(q.together(0, 1), 1);
        due(q.together(0, 2), 0);
        due(q.together(1, 2), 2);
    }

    @Holds(promise = 19, says = "A call that returns an error changes nothing.")
    static void aRefusedTogetherChangesNothing() {
        refused(Evenings::nothing, q -> q.together(0, 1), NO_SUCH);
        refused(Evenings::busy, q -> q.together(1, 1), BAD_VALUE);
        refused(Evenings::full, q -> q.together(0, 12), NO_SUCH);
    }

    @Holds(promise = 19, says = "A key fits a singer and a song if the song's tones, shifted, are all in the voice.")
    static void togetherInTheVoicesOfBoth() {
        Queue q = new Queue();
        q.singer(10, 30);
        q.singer(20, 40);
        q.song(20, 30, 1);
        q.song(19, 30, 1);
        q.song(14, 24, 1);
        q.song(13, 23, 1);
        q.song(26, 36, 1);
        q.song(27, 37, 1);
        due(q.together(0, 1), 3);
        due(q.together(1, 0), 3);
    }
}
