import java.util.List;
import java.util.function.Consumer;
import java.util.function.ToIntFunction;

/** Boundaries of put, wipe, fault, undo, save and restore. */
final class Promises20To25 extends Checks {
    /** Fourteen wishes, and the place of a fifteenth one. */
    private static final String FOURTEEN = "0:0;".repeat(14);

    private Promises20To25() {
    }

    private static Consumer<Queue> withPad(int length) {
        return q -> {
            Evenings.busy(q);
            q.wipe();
            q.write("1".repeat(length));
        };
    }

    private static void faultIs(String text, int fault) {
        Queue q = new Queue();
        q.write(text);
        due(q.count(9), text.length());
        due(q.fault(), fault);
    }

    // ---- promise 20: put

    @Holds(promise = 20, says = "Appends characters to the pad.")
    static void charactersStandBehindThoseOnThePad() {
        Queue q = Evenings.with(12, 1, 2, 3);
        q.put('1');
        q.put(Queue.packed("1+10:"));
        q.put(Queue.packed("2"));
        due(q.read(), 1);
        wishIs(q, 0, 11, 10, 2);
    }

    @Holds(promise = 20, says = "They are given as a number: <its lowest 8 bits are the last character, the next 8 bits the one before, "
            + "and so on>; 8 bits that are 0 mean that there are no more characters, and everything above them has to be 0, too.")
    static void theLowestBitsAreTheLastCharacter() {
        Queue q = Evenings.with(12, 1, 2, 3);
        due(q.put((long) '1' << 16 | ':' << 8 | '2'), 3);
        due(q.read(), 1);
        wishIs(q, 0, 1, NONE, 2);
        long eight = 0;
        for (char c : "11+3:1;4".toCharArray()) {
            eight = eight * 256 + c;
        }
        due(q.put(eight), 8);
        due(q.put((long) ':' << 8 | '0'), 10);
        due(q.read(), 3);
        wishIs(q, 1, 11, 3, 1);
        wishIs(q, 2, 4, NONE, 0);
    }

    @Holds(promise = 20, says = "<They are given as a number>: its lowest 8 bits are the last character, the next 8 bits the one before, "
            + "and so on; <8 bits that are 0 mean that there are no more characters>, and everything above them has to be 0, too.")
    static void eightZeroBitsEndTheCharacters() {
        for (int length = 1; length <= 8; length++) {
            Queue q = new Queue();
            due(q.put(Queue.packed("1".repeat(length))), length);
            due(q.count(9), length);
        }
    }

    @Holds(promise = 20, says = "They are given as a number: its lowest 8 bits are the last character, the next 8 bits the one before, "
            + "and so on; 8 bits that are 0 mean that there are no more characters, <and everything above them has to be 0, too>.")
    static void nothingStandsAboveEightZeroBits() {
        for (int zero = 0; zero < 7; zero++) {
            long below = Queue.packed("1".repeat(zero));
            for (int bit = 8 * zero + 8; bit < 64; bit++) {
                long characters = below | 1L << bit;
                refused(Evenings::busy, q -> q.put(characters), BAD_VALUE);
            }
            long another = below | (long) '1' << 8 * zero + 8;
            refused(Evenings::busy, q -> q.put(another), BAD_VALUE);
        }
    }

    @Holds(promise = 20, says = "`characters`: <1> to 8 characters")
    static void oneCharacter() {
        due(new Queue().put('1'), 1);
        refused(Evenings::nothing, q -> q.put(0), BAD_VALUE);
    }

    @Holds(promise = 20, says = "<`characters`>: 1 <to 8 characters>")
    static void eightCharacters() {
        Queue q = new Queue();
        due(q.put(Queue.packed("~~~~~~~~")), 8);
        due(q.put(Queue.packed("!!!!!!!!")), 16);
        due(q.put(Queue.packed("1111111")), 23);
        due(q.count(9), 23);
    }

    @Holds(promise = 20, says = "<Returns the length of the pad then>; BAD_VALUE if there is no character, a code is not 33 to 126, "
            + "or a bit above 8 bits that are 0 is not 0; TOO_MANY if the pad would be longer than 60.")
    static void lengthsFrom1To60() {
        Queue q = new Queue();
        for (int i = 1; i <= 60; i++) {
            due(q.put('!'), i);
        }
        due(q.wipe(), 60);
        due(q.put('!'), 1);
    }

    @Holds(promise = 20, says = "Returns the length of the pad then; <BAD_VALUE if there is no character>, a code is not 33 to 126, "
            + "or a bit above 8 bits that are 0 is not 0; TOO_MANY if the pad would be longer than 60.")
    static void noCharacter() {
        for (Consumer<Queue> evening : ALL_EVENINGS) {
            refused(evening, q -> q.put(0), BAD_VALUE);
        }
    }

    @Holds(promise = 20, says = "Returns the length of the pad then; BAD_VALUE if there is no character, <a code is not 33 to 126>, "
            + "or a bit above 8 bits that are 0 is not 0; TOO_MANY if the pad would be longer than 60.")
    static void everyCodeAlone() {
        for (int code = 0; code < 256; code++) {
            due(new Queue().put(code), code >= 33 && code <= 126 ? 1 : BAD_VALUE);
        }
        refused(Evenings::busy, q -> q.put(32), BAD_VALUE);
        refused(Evenings::busy, q -> q.put(127), BAD_VALUE);
        refused(Evenings::busy, q -> q.put(128), BAD_VALUE);
        refused(Evenings::busy, q -> q.put(255), BAD_VALUE);
    }

    @Holds(promise = 20, says = "Returns the length of the pad then; BAD_VALUE if there is no character, <a code is not 33 to 126>, "
            + "or a bit above 8 bits that are 0 is not 0; TOO_MANY if the pad would be longer than 60.")
    static void aBadCodeAtEachPlace() {
        long eight = Queue.packed("11111111");
        for (int place = 0; place < 8; place++) {
            long others = eight & ~(255L << 8 * place);
            due(new Queue().put(others | 33L << 8 * place), 8);
            due(new Queue().put(others | 126L << 8 * place), 8);
            for (long code : new long[] {32, 127, 128, 161, 254, 255}) {
                long characters = others | code << 8 * place;
                refused(Evenings::busy, q -> q.put(characters), BAD_VALUE);
            }
        }
    }

    @Holds(promise = 20, says = "Returns the length of the pad then; BAD_VALUE if there is no character, a code is not 33 to 126, "
            + "<or a bit above 8 bits that are 0 is not 0>; TOO_MANY if the pad would be longer than 60.")
    static void numbersFarAway() {
        for (long characters : new long[] {-1, Long.MIN_VALUE, Long.MAX_VALUE, 1L << 32, 0x3000, 0x3100000031L, 0x0100000000000031L,
            Long.MIN_VALUE | '1', 0xffffffff00000000L, 0xffffffff31313131L}) {
            refused(Evenings::busy, q -> q.put(characters), BAD_VALUE);
        }
    }

    @Holds(promise = 20, says = "Returns the length of the pad then; BAD_VALUE if there is no character, a code is not 33 to 126, "
            + "or a bit above 8 bits that are 0 is not 0; <TOO_MANY if the pad would be longer than 60>.")
    static void sixtyFirstCharacter() {
        for (int length = 1; length <= 8; length++) {
            long characters = Queue.packed("2".repeat(length));
            due(made(withPad(60 - length)).put(characters), 60);
            refused(withPad(61 - length), q -> q.put(characters), TOO_MANY);
            refused(withPad(60), q -> q.put(characters), TOO_MANY);
        }
        refused(Evenings::full, q -> q.put('1'), TOO_MANY);
    }

    @Holds(promise = 20, says = "Returns the length of the pad then; BAD_VALUE if there is no character, a code is not 33 to 126, "
            + "or a bit above 8 bits that are 0 is not 0; <TOO_MANY if the pad would be longer than 60>.")
    static void noneOfTooManyCharactersIsAppended() {
        Queue q = made(r -> r.write(FOURTEEN + "0:"));
        due(q.count(9), 58);
        due(q.put(Queue.packed("1;0")), TOO_MANY);
        due(q.fault(), 58);
        due(q.put(Queue.packed("1;")), 60);
        due(q.fault(), 60);
    }

    @Holds(promise = 20, says = "<The pad is a text of at most 60 characters>, a row of wishes: text = wish { \";\" wish }; wish = singer "
            + "[ \"+\" singer ] \":\" song; a singer is a number from 0 to 11, a song one from 0 to 15, without leading zeros.")
    static void thePadHasSixtyCharacters() {
        Queue q = Evenings.with(1, 1, 1, 1, 1, 1, 1, 1, 1, 1, 1, 1, 1, 1, 1, 1, 1);
        q.write(Evenings.FULL_PAD);
        due(q.count(9), 60);
        due(q.put('0'), TOO_MANY);
        due(q.count(9), 60);
        due(q.read(), 15);
        wishIs(q, 0, 0, NONE, 0);
        wishIs(q, 14, 0, NONE, 15);
        due(q.put('0'), 1);
    }

    @Holds(promise = 20, says = "A method that fails returns one of the error codes NO_SUCH (-1), BAD_VALUE (-2), BAD_TEXT (-3), "
            + "TOO_MANY (-4) and NOT_POSSIBLE (-5); <it names its errors in the order in which they are checked, "
            + "and the first one that applies is returned>.")
    static void badCharactersAheadOfTooMany() {
        refused(Evenings::full, q -> q.put(0), BAD_VALUE);
        refused(Evenings::full, q -> q.put(32), BAD_VALUE);
        refused(Evenings::full, q -> q.put(0x3100), BAD_VALUE);
        refused(Evenings::full, q -> q.put(-1), BAD_VALUE);
        refused(withPad(53), q -> q.put(Queue.packed("1111111") << 8 | 32), BAD_VALUE);
        refused(withPad(53), q -> q.put(Queue.packed("11111111")), TOO_MANY);
    }

    @Holds(promise = 20, says = "Ahead of the calls `put`, `wipe`, `fault` the interface says: ---- texts.")
    static void putIsNoChange() {
        isNoChange(Evenings::nothing, q -> q.put('1'));
        isNoChange(Evenings::busy, q -> q.put('1'));
        Queue q = made(Evenings::busy);
        due(q.put('1'), 9);
        due(q.count(10), 6);
        for (Looks look : Looks.OF_THE_STATE) {
            Queue r = made(Evenings::busy);
            r.put('1');
            same(look, r, made(Evenings::busy));
        }
    }

    @Holds(promise = 20, says = "A call that returns an error changes nothing.")
    static void aRefusedPutChangesNothing() {
        refused(Evenings::nothing, q -> q.put(0), BAD_VALUE);
        refused(Evenings::busy, q -> q.put(0x3100000000000000L), BAD_VALUE);
        refused(Evenings::full, q -> q.put('1'), TOO_MANY);
    }

    // ---- promise 21: wipe

    @Holds(promise = 21, says = "<Empties the pad>, and returns the length that it had.")
    static void thePadIsEmptyAfterWipe() {
        Queue q = made(r -> r.write(Evenings.FULL_PAD));
        q.wipe();
        due(q.count(9), 0);
        due(q.fault(), 0);
        due(q.read(), BAD_TEXT);
        due(q.put('1'), 1);
        due(q.fault(), 1);
        due(q.put(Queue.packed(":1")), 3);
        due(q.fault(), NONE);
    }

    @Holds(promise = 21, says = "Empties the pad, <and returns the length that it had>.")
    static void theLengthThatItHad() {
        due(new Queue().wipe(), 0);
        for (int length = 1; length <= 60; length++) {
            Queue q = new Queue();
            q.write("1".repeat(length));
            due(q.wipe(), length);
            due(q.wipe(), 0);
        }
    }

    @Holds(promise = 21, says = "Ahead of the calls `put`, `wipe`, `fault` the interface says: ---- texts.")
    static void wipeIsNoChange() {
        for (Consumer<Queue> evening : ALL_EVENINGS) {
            isNoChange(evening, Queue::wipe);
            for (Looks look : Looks.OF_THE_STATE) {
                Queue q = made(evening);
                q.wipe();
                same(look, q, made(evening));
            }
        }
    }

    // ---- promise 22: fault

    @Holds(promise = 22, says = "Returns the fault of the pad, NONE if there is none.")
    static void faultNone() {
        faultIs("0:0", NONE);
        faultIs("11+11:15", NONE);
        faultIs(Evenings.FULL_PAD, NONE);
        faultIs("", 0);
        faultIs("x", 0);
    }

    @Holds(promise = 22, says = "Returns the fault of the pad, NONE if there is none.")
    static void faultChangesNothing() {
        tells(Evenings::nothing, Queue::fault, 0);
        tells(Evenings::busy, Queue::fault, 8);
        tells(Evenings::full, Queue::fault, NONE);
    }

    @Holds(promise = 22, says = "The pad is a text of at most 60 characters, <a row of wishes: text = wish { \";\" wish }>; wish = singer "
            + "[ \"+\" singer ] \":\" song; a singer is a number from 0 to 11, a song one from 0 to 15, without leading zeros.")
    static void faultOfRows() {
        faultIs("1:1", NONE);
        faultIs("1:1;", 4);
        faultIs("1:1;1:1", NONE);
        faultIs("1:1;;1:1", 4);
        faultIs(";1:1", 0);
        faultIs("1:1,1:1", 3);
        faultIs("1:1:1", 3);
        faultIs(FOURTEEN + "1:1", NONE);
        faultIs(FOURTEEN + "1:1;", 60);
        faultIs(FOURTEEN + "1:1x", 59);
    }

    @Holds(promise = 22, says = "The pad is a text of at most 60 characters, a row of wishes: text = wish { \";\" wish }; <wish = singer "
            + "[ \"+\" singer ] \":\" song>; a singer is a number from 0 to 11, a song one from 0 to 15, without leading zeros.")
    static void faultOfWishes() {
        faultIs("1:1", NONE);
        faultIs("1+2:1", NONE);
        faultIs("1+2+3:1", 3);
        faultIs("+1:1", 0);
        faultIs("1+:1", 2);
        faultIs("1++2:1", 2);
        faultIs(":1", 0);
        faultIs("1::1", 2);
        faultIs("1:+1", 2);
        faultIs("1:1+2", 3);
        faultIs("1;1", 1);
        faultIs("1+2;1", 3);
        faultIs("1+2:;", 4);
    }

    @Holds(promise = 22, says = "The pad is a text of at most 60 characters, a row of wishes: text = wish { \";\" wish }; wish = singer "
            + "[ \"+\" singer ] \":\" song; <a singer is a number from 0 to 11>, a song one from 0 to 15, without leading zeros.")
    static void faultOfSingers() {
        for (int number = 0; number <= 130; number++) {
            String text = Integer.toString(number);
            // as many digits as make a number up to 11 can stand
            int digits = number <= 11 ? text.length() : number >= 100 && number < 120 ? 2 : 1;
            faultIs(text + ":0", number <= 11 ? NONE : digits);
            faultIs("0+" + text + ":0", number <= 11 ? NONE : digits + 2);
            faultIs("0:0;" + text + "+0:0", number <= 11 ? NONE : digits + 4);
        }
    }

    @Holds(promise = 22, says = "The pad is a text of at most 60 characters, a row of wishes: text = wish { \";\" wish }; wish = singer "
            + "[ \"+\" singer ] \":\" song; a singer is a number from 0 to 11, <a song one from 0 to 15>, without leading zeros.")
    static void faultOfSongs() {
        for (int number = 0; number <= 170; number++) {
            String text = Integer.toString(number);
            int digits = number <= 15 ? text.length() : number >= 100 && number < 160 ? 2 : 1;
            faultIs("0:" + text, number <= 15 ? NONE : digits + 2);
            faultIs("0:" + text + ";0:0", number <= 15 ? NONE : digits + 2);
        }
    }

    @Holds(promise = 22, says = "<The pad is a text of at most 60 characters, a row of wishes>: text = wish { \";\" wish }; wish = singer "
            + "[ \"+\" singer ] \":\" song; a singer is a number from 0 to 11, a song one from 0 to 15, <without leading zeros>.")
    static void faultOfLeadingZeros() {
        faultIs("0:0", NONE);
        faultIs("00:0", 1);
        faultIs("01:0", 1);
        faultIs("0+00:0", 3);
        faultIs("0+01:0", 3);
        faultIs("0:00", 3);
        faultIs("0:01", 3);
        faultIs("10+10:10", NONE);
        faultIs("0:0;00:0", 5);
    }

    @Holds(promise = 22, says = "<The fault is the index of the first character that cannot stand at its place when the text is read "
            + "from left to right> (also of a digit by which a number would be too great; whether both singers are the same, or are "
            + "there, does not matter); if there is none and the text ends too early (also if it is empty), it is the length of the text.")
    static void faultOfEachCharacterAtEachPlace() {
        String text = "1+10:15;9:0";
        String[] allowed = {"0123456789", "+:01", "0123456789", ":01", ":", "0123456789", ";012345", ";", "0123456789", "+:", "0123456789", ";"};
        for (int place = 0; place < allowed.length; place++) {
            for (char c = 33; c <= 126; c++) {
                Queue q = new Queue();
                q.write(text.substring(0, Math.min(place, text.length())));
                q.put(c);
                int fault = q.fault();
                due(fault == place ? 1 : 0, allowed[place].indexOf(c) < 0 ? 1 : 0);
            }
        }
    }

    @Holds(promise = 22, says = "<The fault is the index of the first character that cannot stand at its place> when the text is read "
            + "from left to right (also of a digit by which a number would be too great; whether both singers are the same, or are "
            + "there, does not matter); if there is none and the text ends too early (also if it is empty), it is the length of the text.")
    static void faultAtTheFirstAndTheLastPlace() {
        faultIs("x:0", 0);
        faultIs("x".repeat(60), 0);
        faultIs(FOURTEEN + "0:0x", 59);
        faultIs(FOURTEEN + "0:1:", 59);
        faultIs(FOURTEEN + "0:16", 59);
        faultIs(FOURTEEN + "0:15", NONE);
        faultIs("0:0;x" + "0:0;".repeat(13), 4);
        faultIs("0:0;x;y", 4);
    }

    @Holds(promise = 22, says = "The fault is the index of the first character that cannot stand at its place when the text is read "
            + "from left to right (<also of a digit by which a number would be too great>; whether both singers are the same, or are "
            + "there, does not matter); if there is none and the text ends too early (also if it is empty), it is the length of the text.")
    static void faultOfADigitTooMany() {
        faultIs("11:0", NONE);
        faultIs("12:0", 1);
        faultIs("110:0", 2);
        faultIs("99:0", 1);
        faultIs("0+12:0", 3);
        faultIs("0+110:0", 4);
        faultIs("0:15", NONE);
        faultIs("0:16", 3);
        faultIs("0:150", 4);
        faultIs("0:99", 3);
        faultIs("1".repeat(60), 2);
        faultIs("4294967296:0", 1);
    }

    @Holds(promise = 22, says = "The fault is the index of the first character that cannot stand at its place when the text is read "
            + "from left to right (also of a digit by which a number would be too great; <whether both singers are the same, or are "
            + "there, does not matter>); if there is none and the text ends too early (also if it is empty), it is the length of the text.")
    static void faultDoesNotLookAtSingers() {
        faultIs("0+0:0", NONE);
        faultIs("11+11:15", NONE);
        Queue q = Evenings.with(2, 1);
        q.leave(0, true);
        q.write("0+1:0;0:0;5+5:9");
        due(q.fault(), NONE);
    }

    @Holds(promise = 22, says = "The fault is the index of the first character that cannot stand at its place when the text is read "
            + "from left to right (also of a digit by which a number would be too great; whether both singers are the same, or are "
            + "there, does not matter); <if there is none and the text ends too early> (also if it is empty), <it is the length of the text>.")
    static void faultOfTextsThatEndTooEarly() {
        String[] texts = {"1", "11", "1+", "1+1", "1+11", "1+1:", "1:", "1:1;", "1:1;1", "1:1;1+", "1:1;11+11", "1:1;1:", "11+11:"};
        for (String text : texts) {
            faultIs(text, text.length());
        }
        faultIs(FOURTEEN + "1", 57);
        faultIs(FOURTEEN + "1:", 58);
        faultIs(FOURTEEN + "1:1;", 60);
        faultIs(FOURTEEN + "1+1:", 60);
        faultIs(FOURTEEN + "11:1", NONE);
    }

    @Holds(promise = 22, says = "The fault is the index of the first character that cannot stand at its place when the text is read "
            + "from left to right (also of a digit by which a number would be too great; whether both singers are the same, or are "
            + "there, does not matter); if there is none and the text ends too early <(also if it is empty)>, it is the length of the text.")
    static void faultOfTheEmptyText() {
        due(new Queue().fault(), 0);
        Queue q = made(r -> r.write("1:1"));
        due(q.fault(), NONE);
        q.wipe();
        due(q.fault(), 0);
        Queue read = Evenings.with(1, 1);
        read.write("0:0");
        read.read();
        due(read.fault(), 0);
    }

    @Holds(promise = 22, says = "The fault is the index of the first character that cannot stand at its place when the text is read "
            + "from left to right (also of a digit by which a number would be too great; whether both singers are the same, or are "
            + "there, does not matter); <if there is none and the text ends too early> (also if it is empty), it is the length of the text.")
    static void faultDoesNotLookAtWhatWasWiped() {
        for (String before : new String[] {"1:1;1:1", "11+11:11", "1+1:1;1:11", Evenings.FULL_PAD}) {
            for (String text : new String[] {"1", "11", "1+", "1:", "1:1;", "1+1:"}) {
                Queue q = new Queue();
                q.write(before);
                q.wipe();
                q.write(text);
                due(q.fault(), text.length());
            }
        }
    }

    @Holds(promise = 22, says = "NONE (-6) is not an error; it is returned only if no error applies.")
    static void faultNoneIsNoError() {
        tells(Evenings::full, Queue::fault, NONE);
    }

    // ---- promise 23: undo

    @Holds(promise = 23, says = "<Undoes the latest change>: everything except the pad, the slots and the history is as it was before it.")
    static void eachChangeIsUndone() {
        for (Consumer<Queue> evening : ALL_EVENINGS) {
            isChange(q -> {
                evening.accept(q);
                q.undo();
            }, q -> q.sing(20));
        }
        isChange(Evenings::busy, q -> q.singer(0, 60));
        isChange(Evenings::busy, q -> q.song(0, 60, 9));
        isChange(Evenings::busy, q -> q.leave(0, true));
        isChange(Evenings::busy, q -> q.wish(0, 2, 0));
        isChange(Evenings::busy, q -> q.takeBack(0));
        isChange(Evenings::busy, q -> q.sing(2));
        isChange(Evenings::busy, q -> q.restore(0));
        isChange(q -> {
            Evenings.busy(q);
            q.put('2');
        }, Queue::read);
    }

    @Holds(promise = 23, says = "Undoes the latest change: <everything except the pad>, the slots and the history is as it was before it.")
    static void undoKeepsThePad() {
        Queue q = Evenings.with(2, 1);
        q.write("0:0;1:0");
        q.wish(0, NONE, 0);
        q.undo();
        due(q.count(9), 7);
        q.read();
        due(q.count(9), 0);
        q.undo();
        due(q.count(3), 0);
        due(q.count(9), 0);
        due(q.fault(), 0);
        q.write("1:0");
        q.undo();
        due(q.count(9), 3);
        due(q.fault(), NONE);
    }

    @Holds(promise = 23, says = "Undoes the latest change: everything except the pad, <the slots> and the history is as it was before it.")
    static void undoKeepsTheSlots() {
        Queue q = Evenings.with(1, 1);
        q.wishes(3, 0, NONE, 0);
        q.save(1);
        q.undo();
        due(q.count(3), 2);
        q.save(0);
        q.undo();
        q.undo();
        due(q.count(3), 0);
        due(q.restore(1), 3);
        due(q.undo(), 2);
        due(q.restore(0), 2);
        due(q.restore(1), 3);
    }

    @Holds(promise = 23, says = "Undoes the latest change: everything except the pad, the slots <and the history is as it was before it>.")
    static void undoTakesOneFromTheHistory() {
        Queue q = Evenings.with(1, 1);
        due(q.count(10), 2);
        q.wishes(3, 0, NONE, 0);
        due(q.undo(), 4);
        due(q.count(10), 4);
        q.wish(0, NONE, 0);
        due(q.count(10), 5);
        due(q.undo(), 4);
        due(q.undo(), 3);
    }

    @Holds(promise = 23, says = "<A history of at most 6 states is kept>: each method that is a change, and returns no error, records the "
            + "state before it (also if nothing is different then); when one more is recorded, the oldest one is dropped.")
    static void sixStatesAreKept() {
        for (int number = 0; number <= 20; number++) {
            int changes = number;
            Queue q = made(r -> r.songs(Math.min(changes, 10), 0, 60, 1));
            q.singers(number - Math.min(number, 10), 0, 60);
            int kept = Math.min(number, 6);
            due(q.count(10), kept);
            for (int left = kept - 1; left >= 0; left--) {
                due(q.undo(), left);
                due(q.count(0) + q.count(2), number - kept + left);
            }
            due(q.undo(), NOT_POSSIBLE);
            due(q.count(0) + q.count(2), number - kept);
        }
    }

    @Holds(promise = 23, says = "A history of at most 6 states is kept: <each method that is a change>, and returns no error, <records the "
            + "state before it> (also if nothing is different then); when one more is recorded, the oldest one is dropped.")
    static void eachMethodThatIsAChangeRecords() {
        Queue q = new Queue();
        q.singer(0, 60);
        due(q.count(10), 1);
        q.song(0, 60, 1);
        due(q.count(10), 2);
        q.leave(0, true);
        due(q.count(10), 3);
        q.wish(0, NONE, 0);
        due(q.count(10), 4);
        q.takeBack(0);
        due(q.count(10), 5);
        q.undo();
        q.undo();
        q.undo();
        q.undo();
        due(q.count(10), 1);
        q.sing(1);
        due(q.count(10), 2);
        q.song(0, 60, 1);
        q.write("0:0");
        q.read();
        due(q.count(10), 4);
        q.save(0);
        due(q.count(10), 4);
        q.restore(0);
        due(q.count(10), 5);
    }

    @Holds(promise = 23, says = "A history of at most 6 states is kept: each method that is a change, <and returns no error>, records the "
            + "state before it (also if nothing is different then); when one more is recorded, the oldest one is dropped.")
    static void whatIsRefusedIsNotRecorded() {
        Queue q = Evenings.with(1, 1);
        due(q.count(10), 2);
        q.singer(1, 0);
        q.song(1, 0, 1);
        q.leave(0, false);
        q.wish(1, NONE, 0);
        q.takeBack(0);
        q.sing(0);
        q.read();
        q.restore(0);
        q.restore(2);
        due(q.count(10), 2);
        due(q.undo(), 1);
        due(q.count(2), 0);
    }

    @Holds(promise = 23, says = "A history of at most 6 states is kept: each method that is a change, and returns no error, records the "
            + "state before it <(also if nothing is different then)>; when one more is recorded, the oldest one is dropped.")
    static void whatChangesNothingIsRecorded() {
        Queue q = Evenings.with(1, 1);
        due(q.sing(1), 0);
        due(q.count(10), 3);
        q.save(0);
        due(q.restore(0), 0);
        due(q.count(10), 4);
        due(q.undo(), 3);
        due(q.count(0), 1);
        due(q.undo(), 2);
        due(q.count(2), 1);
        due(q.undo(), 1);
        due(q.count(2), 0);
    }

    @Holds(promise = 23, says = "A history of at most 6 states is kept: each method that is a change, and returns no error, records the "
            + "state before it (also if nothing is different then); <when one more is recorded, the oldest one is dropped>.")
    static void theOldestStateIsDropped() {
        Queue q = new Queue();
        q.singers(7, 0, 60);
        for (int left = 5; left >= 0; left--) {
            due(q.undo(), left);
        }
        due(q.count(0), 1);
        due(q.undo(), NOT_POSSIBLE);
        due(q.count(0), 1);
        for (int i = 0; i < 6; i++) {
            q.sing(1);
        }
        due(q.count(10), 6);
        for (int left = 5; left >= 0; left--) {
            due(q.undo(), left);
        }
        due(q.count(0), 1);
    }

    @Holds(promise = 23, says = "A history of at most 6 states is kept: each method that is a change, and returns no error, records the "
            + "state before it (also if nothing is different then); <when one more is recorded, the oldest one is dropped>.")
    static void changesAndUndosInTurn() {
        // whatever the place in the history, undo brings back the state right before
        Queue q = new Queue();
        for (int i = 0; i < 12; i++) {
            q.singers(1, i, 60);
            q.song(0, 60, 1);
            due(q.count(2), 1);
            q.undo();
            due(q.count(2), 0);
            due(q.count(0), i + 1);
            due(q.of(i, 0), i);
        }
        due(q.count(10), 5);
        for (int left = 4; left >= 0; left--) {
            due(q.undo(), left);
            due(q.count(0), left + 7);
        }
    }

    @Holds(promise = 23, says = "<Returns how many changes can be undone then>; NOT_POSSIBLE if there is none.")
    static void fromFiveToNoneToUndo() {
        Queue q = new Queue();
        q.singers(6, 0, 60);
        for (int left = 5; left >= 0; left--) {
            due(q.undo(), left);
            due(q.count(10), left);
        }
        due(q.count(0), 0);
    }

    @Holds(promise = 23, says = "Returns how many changes can be undone then; <NOT_POSSIBLE if there is none>.")
    static void nothingToUndo() {
        refused(Evenings::nothing, Queue::undo, NOT_POSSIBLE);
        for (Consumer<Queue> evening : ALL_EVENINGS) {
            refused(q -> {
                evening.accept(q);
                q.wipe();
                while (q.count(10) > 0) {
                    q.undo();
                }
                q.put('1');
            }, Queue::undo, NOT_POSSIBLE);
        }
    }

    @Holds(promise = 23, says = "Returns how many changes can be undone then; NOT_POSSIBLE if there is none.")
    static void undoIsNoChangeItself() {
        Queue q = Evenings.with(1, 1);
        due(q.undo(), 1);
        due(q.undo(), 0);
        due(q.undo(), NOT_POSSIBLE);
        due(q.undo(), NOT_POSSIBLE);
        q.singer(0, 60);
        due(q.undo(), 0);
    }

    @Holds(promise = 23, says = "Ahead of the calls `undo`, `save`, `restore` the interface says: ---- undo, saving.")
    static void whoComesAfterUndoHasNothingOfWhoCameBefore() {
        Queue q = Evenings.with(2, 9);
        q.wish(1, NONE, 0);
        q.sing(1);
        q.leave(1, true);
        for (int left = 5; left >= 2; left--) {
            due(q.undo(), left);
        }
        due(q.count(0), 2);
        due(q.count(2), 0);
        due(q.undo(), 1);
        due(q.count(0), 1);
        due(q.singer(3, 4), 1);
        int[] told = {3, 4, 1, 0, 0, 0, 0};
        for (int what = 0; what <= 6; what++) {
            due(q.of(1, what), told[what]);
        }
        due(q.song(3, 4, 2), 0);
        due(q.ofSong(0, 4), 0);
        due(q.ofSong(0, 2), 2);
    }

    @Holds(promise = 23, says = "A call that returns an error changes nothing.")
    static void aRefusedUndoChangesNothing() {
        refused(Evenings::nothing, Queue::undo, NOT_POSSIBLE);
        refused(q -> {
            Evenings.busy(q);
            for (int i = 0; i < 6; i++) {
                q.undo();
            }
        }, Queue::undo, NOT_POSSIBLE);
    }

    /** Another singer and another song in the places of those that are saved in slot 0. */
    private static Queue othersInTheirPlaces() {
        Queue q = new Queue();
        q.singer(10, 20);
        q.song(10, 20, 5);
        q.save(0);
        q.undo();
        q.undo();
        q.singer(30, 40);
        q.song(31, 39, 7);
        return q;
    }

    private static void voiceAndSongAre(Queue q, int[] voice, int[] song) {
        due(q.of(0, 0), voice[0]);
        due(q.of(0, 1), voice[1]);
        for (int what = 0; what <= 2; what++) {
            due(q.ofSong(0, what), song[what]);
        }
    }

    @Holds(promise = 23, says = "Undoes the latest change: <everything> except the pad, the slots and the history <is as it was before it>.")
    static void undoBringsBackVoicesAndSongs() {
        Queue q = othersInTheirPlaces();
        voiceAndSongAre(q, new int[] {30, 40}, new int[] {31, 39, 7});
        q.restore(0);
        due(q.undo(), 2);
        voiceAndSongAre(q, new int[] {30, 40}, new int[] {31, 39, 7});
    }

    // ---- promise 24: save

    @Holds(promise = 24, says = "<Saves everything except the pad>, the history and the slots <in a slot>, and overwrites what was saved there.")
    static void everythingIsSaved() {
        for (Looks look : Looks.OF_THE_STATE) {
            Queue q = made(Evenings::busy);
            q.save(1);
            q.sing(20);
            q.singer(0, 0);
            q.song(0, 0, 1);
            q.wipe();
            q.restore(1);
            same(look, q, made(Evenings::busy));
        }
        Queue q = made(Evenings::busy);
        q.save(1);
        q.put('1');
        due(q.restore(1), 4);
        due(q.count(9), 9);
    }

    @Holds(promise = 24, says = "Saves everything except the pad, <the history> and the slots in a slot, and overwrites what was saved there.")
    static void theHistoryIsNotSaved() {
        Queue q = Evenings.with(1, 1);
        q.save(0);
        due(q.count(10), 2);
        q.undo();
        due(q.restore(0), 0);
        due(q.count(10), 2);
        due(q.undo(), 1);
        due(q.count(2), 0);
    }

    @Holds(promise = 24, says = "Saves everything except the pad, the history <and the slots> in a slot, and overwrites what was saved there.")
    static void theSlotsAreNotSaved() {
        Queue q = Evenings.with(1, 1);
        q.save(0);
        q.wish(0, NONE, 0);
        q.save(1);
        q.wish(0, NONE, 0);
        q.save(0);
        due(q.restore(1), 1);
        // restoring slot 1 brings back no older slot 0
        due(q.restore(0), 2);
        due(q.restore(1), 1);
    }

    @Holds(promise = 24, says = "Saves everything except the pad, the history and the slots in a slot, <and overwrites what was saved there>.")
    static void whatWasSavedIsOverwritten() {
        for (int slot = 0; slot <= 1; slot++) {
            Queue q = made(Evenings::full);
            due(q.save(slot), 20);
            q.sing(20);
            due(q.save(slot), 0);
            due(q.restore(slot), 0);
            due(q.count(7), 40);
            due(q.restore(1 - slot), 20);
        }
    }

    @Holds(promise = 24, says = "`slot`: <0> or 1")
    static void saveInSlot0() {
        Queue q = Evenings.with(1, 1);
        due(q.save(0), 0);
        due(q.restore(1), NOT_POSSIBLE);
        due(q.restore(0), 0);
        refused(Evenings::busy, r -> r.save(-1), BAD_VALUE);
    }

    @Holds(promise = 24, says = "<`slot`>: 0 <or 1>")
    static void saveInSlot1() {
        Queue q = Evenings.with(1, 1);
        due(q.save(1), 0);
        due(q.restore(0), NOT_POSSIBLE);
        due(q.restore(1), 0);
        refused(Evenings::busy, r -> r.save(2), BAD_VALUE);
    }

    @Holds(promise = 24, says = "<Returns how many wishes there are>; BAD_VALUE if there is no such slot.")
    static void saveFromNoneToTwentyWishes() {
        Queue q = Evenings.with(1, 1);
        for (int i = 0; i < 20; i++) {
            due(q.save(i & 1), i);
            q.wish(0, NONE, 0);
        }
        due(q.save(0), 20);
        q.leave(0, true);
        due(q.save(0), 20);
        due(new Queue().save(1), 0);
    }

    @Holds(promise = 24, says = "Returns how many wishes there are; <BAD_VALUE if there is no such slot>.")
    static void saveInNoSlot() {
        for (Consumer<Queue> evening : ALL_EVENINGS) {
            for (int slot : outside(0, 1)) {
                refused(evening, q -> q.save(slot), BAD_VALUE);
            }
        }
    }

    @Holds(promise = 24, says = "Ahead of the calls `undo`, `save`, `restore` the interface says: ---- undo, saving.")
    static void saveIsNoChange() {
        for (Consumer<Queue> evening : ALL_EVENINGS) {
            isNoChange(evening, q -> q.save(0));
            isNoChange(evening, q -> q.save(1));
        }
        Queue q = new Queue();
        q.save(0);
        due(q.count(10), 0);
        due(q.undo(), NOT_POSSIBLE);
    }

    @Holds(promise = 24, says = "A call that returns an error changes nothing.")
    static void aRefusedSaveChangesNothing() {
        refused(Evenings::nothing, q -> q.save(2), BAD_VALUE);
        refused(Evenings::busy, q -> q.save(-1), BAD_VALUE);
        refused(Evenings::full, q -> q.save(2), BAD_VALUE);
    }

    @Holds(promise = 24, says = "Everything is numbered from 0.")
    static void theFirstSlotIs0() {
        Queue q = new Queue();
        due(q.save(0), 0);
        due(q.save(1), 0);
        due(q.save(2), BAD_VALUE);
    }

    // ---- promise 25: restore

    @Holds(promise = 25, says = "<Restores what was saved last in a slot>, which keeps it.")
    static void whatWasSavedLastIsRestored() {
        for (ToIntFunction<Queue> between : List.<ToIntFunction<Queue>>of(q -> q.sing(20), q -> q.takeBack(0),
                q -> q.leave(0, true), q -> q.singer(0, 0), q -> q.song(0, 0, 1), q -> q.wish(0, NONE, 0), q -> q.undo())) {
            for (Looks look : Looks.OF_THE_STATE) {
                Queue q = made(Evenings::busy);
                q.save(1);
                between.applyAsInt(q);
                due(q.restore(1), 4);
                same(look, q, made(Evenings::busy));
            }
        }
    }

    @Holds(promise = 25, says = "Restores what was saved last in a slot, <which keeps it>.")
    static void theSlotKeepsIt() {
        Queue q = Evenings.with(2, 1);
        q.wishes(5, 0, NONE, 0);
        q.save(0);
        for (int i = 0; i < 5; i++) {
            q.sing(i + 1);
            q.takeBack(0);
            q.leave(1, true);
            due(q.restore(0), 5);
            due(q.count(3), 5);
            due(q.count(1), 0b11);
            due(q.count(7), 0);
        }
    }

    @Holds(promise = 25, says = "This is a change.")
    static void restoreIsAChange() {
        isChange(Evenings::busy, q -> q.restore(0));
        isChange(Evenings::full, q -> q.restore(1));
        isChange(q -> q.save(0), q -> q.restore(0));
    }

    @Holds(promise = 25, says = "`slot`: <0> or 1")
    static void restoreSlot0() {
        Queue q = Evenings.with(1, 1);
        q.wish(0, NONE, 0);
        q.save(0);
        due(q.restore(0), 1);
        due(q.restore(1), NOT_POSSIBLE);
        refused(Evenings::full, r -> r.restore(-1), BAD_VALUE);
    }

    @Holds(promise = 25, says = "<`slot`>: 0 <or 1>")
    static void restoreSlot1() {
        Queue q = Evenings.with(1, 1);
        q.wish(0, NONE, 0);
        q.save(1);
        due(q.restore(1), 1);
        due(q.restore(0), NOT_POSSIBLE);
        refused(Evenings::full, r -> r.restore(2), BAD_VALUE);
    }

    @Holds(promise = 25, says = "<Returns how many wishes there are then>; BAD_VALUE if there is no such slot; "
            + "NOT_POSSIBLE if nothing was saved in it.")
    static void restoreNoneOrTwentyWishes() {
        Queue q = Evenings.with(1, 1);
        q.save(0);
        q.wishes(20, 0, NONE, 0);
        q.save(1);
        due(q.restore(0), 0);
        due(q.count(3), 0);
        due(q.restore(1), 20);
        due(q.count(3), 20);
        q.wish(0, NONE, 0);
        due(q.count(3), 20);
    }

    @Holds(promise = 25, says = "Returns how many wishes there are then; <BAD_VALUE if there is no such slot>; "
            + "NOT_POSSIBLE if nothing was saved in it.")
    static void restoreNoSlot() {
        for (Consumer<Queue> evening : ALL_EVENINGS) {
            for (int slot : outside(0, 1)) {
                refused(evening, q -> q.restore(slot), BAD_VALUE);
            }
        }
    }

    @Holds(promise = 25, says = "Returns how many wishes there are then; BAD_VALUE if there is no such slot; "
            + "<NOT_POSSIBLE if nothing was saved in it>.")
    static void restoreWhatWasNotSaved() {
        refused(Evenings::nothing, q -> q.restore(0), NOT_POSSIBLE);
        refused(Evenings::nothing, q -> q.restore(1), NOT_POSSIBLE);
        refused(Evenings::busy, q -> q.restore(1), NOT_POSSIBLE);
        refused(q -> {
            Evenings.nothing(q);
            q.save(1);
        }, q -> q.restore(0), NOT_POSSIBLE);
        Queue q = new Queue();
        q.save(0);
        due(q.restore(0), 0);
    }

    @Holds(promise = 25, says = "Everything is numbered from 0.")
    static void theTwoSlotsAreApart() {
        Queue q = Evenings.with(1, 1);
        q.save(0);
        q.wish(0, NONE, 0);
        q.save(1);
        due(q.restore(0), 0);
        due(q.restore(1), 1);
        due(q.restore(0), 0);
    }

    @Holds(promise = 25, says = "A call that returns an error changes nothing.")
    static void aRefusedRestoreKeepsTheHistory() {
        Queue q = new Queue();
        q.singers(7, 0, 60);
        due(q.restore(0), NOT_POSSIBLE);
        due(q.restore(5), BAD_VALUE);
        due(q.count(10), 6);
        due(q.count(0), 7);
        due(q.undo(), 5);
        due(q.count(0), 6);
    }

    @Holds(promise = 25, says = "A call that returns an error changes nothing.")
    static void aRefusedRestoreChangesNothing() {
        refused(Evenings::nothing, q -> q.restore(0), NOT_POSSIBLE);
        refused(Evenings::busy, q -> q.restore(1), NOT_POSSIBLE);
        refused(Evenings::busy, q -> q.restore(2), BAD_VALUE);
        refused(Evenings::full, q -> q.restore(-1), BAD_VALUE);
    }

    @Holds(promise = 25, says = "A method that fails returns one of the error codes NO_SUCH (-1), BAD_VALUE (-2), BAD_TEXT (-3), "
            + "TOO_MANY (-4) and NOT_POSSIBLE (-5); <it names its errors in the order in which they are checked, "
            + "and the first one that applies is returned>.")
    static void noSlotAheadOfNothingSaved() {
        // nothing was saved in a slot that is none, either
        refused(Evenings::nothing, q -> q.restore(2), BAD_VALUE);
        refused(Evenings::nothing, q -> q.restore(-1), BAD_VALUE);
        refused(Evenings::busy, q -> q.restore(3), BAD_VALUE);
    }

    @Holds(promise = 25, says = "<Restores what was saved last in a slot>, which keeps it.")
    static void voicesAndSongsAreRestored() {
        Queue q = othersInTheirPlaces();
        for (int i = 0; i < 2; i++) {
            due(q.restore(0), 0);
            voiceAndSongAre(q, new int[] {10, 20}, new int[] {10, 20, 5});
            q.undo();
            q.save(1);
            q.restore(0);
            q.restore(1);
            voiceAndSongAre(q, new int[] {30, 40}, new int[] {31, 39, 7});
        }
    }
}
