import java.util.ArrayDeque;
import java.util.ArrayList;
import java.util.Collections;
import java.util.Comparator;
import java.util.List;
import java.util.Optional;
import java.util.stream.Collectors;
import java.util.stream.IntStream;

/**
 * Long runs of calls, each answer compared with a model that says the document in another way: with lists that are
 * copied, turns that are sung on copies, and texts that are matched by patterns.
 */
public final class ModelTest {
    private static final int NO_SUCH = -1, BAD_VALUE = -2, BAD_TEXT = -3, TOO_MANY = -4, NOT_POSSIBLE = -5, NONE = -6;
    private static final int CALLS = 512;
    private static final int RUNS = 1000;

    record Voice(int lowest, int highest) { }

    record Song(int lowest, int highest, int length) { }

    record Wish(int id, List<Integer> singers, int song) { }

    record Turn(Wish wish, int begin) { }

    /** One state of the evening. */
    static final class State {
        List<Voice> voices = new ArrayList<>();
        List<Boolean> there = new ArrayList<>();
        List<Song> songs = new ArrayList<>();
        List<Wish> wishes = new ArrayList<>();
        List<Turn> turns = new ArrayList<>();
        int made = 0;

        State copy() {
            State copy = new State();
            copy.voices.addAll(voices);
            copy.there.addAll(there);
            copy.songs.addAll(songs);
            copy.wishes.addAll(wishes);
            copy.turns.addAll(turns);
            copy.made = made;
            return copy;
        }

        boolean singer(int i) {
            return i >= 0 && i < voices.size();
        }

        int minute() {
            return turns.stream().mapToInt(t -> songs.get(t.wish.song).length).sum();
        }

        int turnsOf(int singer) {
            return (int) turns.stream().filter(t -> t.wish.singers.contains(singer)).count();
        }

        boolean tired(int singer) {
            return !turns.isEmpty() && turns.get(turns.size() - 1).wish.singers.contains(singer);
        }

        boolean ready(Wish w) {
            return w.singers.stream().allMatch(there::get);
        }

        boolean fresh(Wish w) {
            return w.singers.stream().noneMatch(this::tired);
        }

        int counts(Wish w) {
            return w.singers.stream().mapToInt(this::turnsOf).max().orElseThrow();
        }

        Optional<Wish> next() {
            return wishes.stream().filter(this::ready)
                    .min(Comparator.comparing((Wish w) -> !fresh(w)).thenComparing(this::counts)
                            .thenComparing(wishes::indexOf));
        }

        boolean singOne() {
            Optional<Wish> next = next();
            if (next.isEmpty()) {
                return false;
            }
            turns.add(new Turn(next.get(), minute()));
            wishes.remove(next.get());
            return true;
        }

        Optional<Integer> key(List<Integer> singers, int song) {
            Song s = songs.get(song);
            return IntStream.rangeClosed(-6, 6).boxed()
                    .filter(k -> IntStream.rangeClosed(s.lowest, s.highest).map(t -> t + k).allMatch(t ->
                            singers.stream().map(voices::get).allMatch(v -> t >= v.lowest && t <= v.highest)))
                    .min(Comparator.comparing((Integer k) -> Math.abs(k)).thenComparing(k -> k < 0));
        }

        int keyTold(List<Integer> singers, int song) {
            return key(singers, song).map(k -> k + 10).orElse(NONE);
        }

        /** The turn of a ready wish, sung on a copy. */
        State until(Wish wish, Wish without) {
            State s = copy();
            s.wishes.remove(without);
            while (!s.next().orElseThrow().equals(wish)) {
                s.singOne();
            }
            return s;
        }

        int nameError(int singer, int other, int song) {
            if (!singer(singer) || !(other == NONE || singer(other)) || song < 0 || song >= songs.size()) {
                return NO_SUCH;
            }
            return singer == other ? BAD_VALUE : 0;
        }

        int makeWish(int singer, int other, int song) {
            int error = nameError(singer, other, song);
            if (error != 0) {
                return error;
            }
            List<Integer> singers = other == NONE ? List.of(singer) : List.of(singer, other);
            if (wishes.size() == 20) {
                return TOO_MANY;
            }
            if (key(singers, song).isEmpty()) {
                return NOT_POSSIBLE;
            }
            wishes.add(new Wish(made++, singers, song));
            return wishes.size() - 1;
        }
    }

    /** The whole object. */
    static final class Model {
        static final String SINGER = "([0-9]|10|11)";
        static final String SONG = "([0-9]|1[0-5])";
        static final String WISH = SINGER + "(\\+" + SINGER + ")?:" + SONG;
        static final String BEGUN = "(" + SINGER + "\\+?|" + SINGER + "\\+" + SINGER + "|"
                + SINGER + "(\\+" + SINGER + ")?:" + SONG + "?)?";

        State state = new State();
        String pad = "";
        ArrayDeque<State> history = new ArrayDeque<>();
        State[] slots = new State[2];

        /** A change is made on a copy, and stands if it is no error. */
        int change(java.util.function.ToIntFunction<State> change) {
            State then = state.copy();
            int answer = change.applyAsInt(then);
            if (answer >= 0) {
                history.push(state);
                if (history.size() > 6) {
                    history.removeLast();
                }
                state = then;
            }
            return answer;
        }

        static int set(int size, java.util.function.IntPredicate in) {
            return IntStream.range(0, size).filter(in).map(i -> 1 << i).sum();
        }

        static int number(boolean b) {
            return b ? 1 : 0;
        }

        static boolean badTones(int low, int high) {
            return low < 0 || low > 60 || high < low || high > 60;
        }

        int singer(int low, int high) {
            if (badTones(low, high)) {
                return BAD_VALUE;
            }
            return change(s -> {
                if (s.voices.size() == 12) {
                    return TOO_MANY;
                }
                s.voices.add(new Voice(low, high));
                s.there.add(true);
                return s.voices.size() - 1;
            });
        }

        int song(int low, int high, int length) {
            if (badTones(low, high) || length < 1 || length > 9) {
                return BAD_VALUE;
            }
            return change(s -> {
                if (s.songs.size() == 16) {
                    return TOO_MANY;
                }
                s.songs.add(new Song(low, high, length));
                return s.songs.size() - 1;
            });
        }

        int leave(int singer, boolean left) {
            if (!state.singer(singer)) {
                return NO_SUCH;
            }
            return change(s -> {
                if (s.there.set(singer, !left) == !left) {
                    return NOT_POSSIBLE;
                }
                return Collections.frequency(s.there, true);
            });
        }

        int wish(int singer, int other, int song) {
            return change(s -> s.makeWish(singer, other, song));
        }

        int takeBack(int wish) {
            if (wish < 0 || wish >= state.wishes.size()) {
                return NO_SUCH;
            }
            return change(s -> {
                s.wishes.remove(wish);
                return s.wishes.size();
            });
        }

        int sing(int turns) {
            if (turns < 1 || turns > 20) {
                return BAD_VALUE;
            }
            return change(s -> {
                int sung = 0;
                while (sung < turns && s.singOne()) {
                    sung++;
                }
                return sung;
            });
        }

        int fault() {
            if (pad.matches(WISH + "(;" + WISH + ")*")) {
                return NONE;
            }
            for (int i = 1; i <= pad.length(); i++) {
                if (!pad.substring(0, i).matches("(" + WISH + ";)*" + BEGUN)) {
                    return i - 1;
                }
            }
            return pad.length();
        }

        int read() {
            if (fault() != NONE) {
                return BAD_TEXT;
            }
            int answer = change(s -> {
                for (String text : pad.split(";")) {
                    String[] parts = text.split("[+:]");
                    int other = parts.length == 3 ? Integer.parseInt(parts[1]) : NONE;
                    int error = s.makeWish(Integer.parseInt(parts[0]), other, Integer.parseInt(parts[parts.length - 1]));
                    if (error < 0) {
                        return error;
                    }
                }
                return s.wishes.size();
            });
            if (answer >= 0) {
                pad = "";
            }
            return answer;
        }

        int of(int i, int what) {
            State s = state;
            if (!s.singer(i)) {
                return NO_SUCH;
            }
            return switch (what) {
                case 0 -> s.voices.get(i).lowest;
                case 1 -> s.voices.get(i).highest;
                case 2 -> number(s.there.get(i));
                case 3 -> s.turnsOf(i);
                case 4 -> number(s.tired(i));
                case 5 -> (int) s.wishes.stream().filter(w -> w.singers.contains(i)).count();
                case 6 -> s.turns.stream().filter(t -> t.wish.singers.contains(i))
                        .mapToInt(t -> s.songs.get(t.wish.song).length).sum();
                default -> BAD_VALUE;
            };
        }

        static int otherOf(Wish w) {
            return w.singers.size() == 2 ? w.singers.get(1) : NONE;
        }

        int inQueue(int wish, int what) {
            if (wish < 0 || wish >= state.wishes.size()) {
                return NO_SUCH;
            }
            Wish w = state.wishes.get(wish);
            return switch (what) {
                case 0 -> w.singers.get(0);
                case 1 -> otherOf(w);
                case 2 -> w.song;
                case 3 -> state.keyTold(w.singers, w.song);
                case 4 -> number(state.ready(w));
                case 5 -> number(state.fresh(w));
                case 6 -> state.counts(w);
                default -> BAD_VALUE;
            };
        }

        int key(int singer, int other, int song) {
            int error = state.nameError(singer, other, song);
            return error != 0 ? error : state.keyTold(other == NONE ? List.of(singer) : List.of(singer, other), song);
        }

        int ofSong(int song, int what) {
            if (song < 0 || song >= state.songs.size()) {
                return NO_SUCH;
            }
            Song s = state.songs.get(song);
            return switch (what) {
                case 0 -> s.lowest;
                case 1 -> s.highest;
                case 2 -> s.length;
                case 3 -> set(state.voices.size(), i -> state.key(List.of(i), song).isPresent());
                case 4 -> (int) state.turns.stream().filter(t -> t.wish.song == song).count();
                default -> BAD_VALUE;
            };
        }

        int past(int back, int what) {
            if (back < 0 || back >= 12 || back >= state.turns.size()) {
                return NO_SUCH;
            }
            Turn t = state.turns.get(state.turns.size() - 1 - back);
            return switch (what) {
                case 0 -> t.wish.singers.get(0);
                case 1 -> otherOf(t.wish);
                case 2 -> t.wish.song;
                case 3 -> t.begin;
                default -> BAD_VALUE;
            };
        }

        int count(int what) {
            State s = state;
            return switch (what) {
                case 0 -> s.voices.size();
                case 1 -> set(s.voices.size(), s.there::get);
                case 2 -> s.songs.size();
                case 3 -> s.wishes.size();
                case 4 -> (int) s.wishes.stream().filter(s::ready).count();
                case 5 -> s.next().map(s.wishes::indexOf).orElse(NONE);
                case 6 -> s.minute();
                case 7 -> s.turns.size();
                case 8 -> set(s.voices.size(), s::tired);
                case 9 -> pad.length();
                case 10 -> history.size();
                default -> BAD_VALUE;
            };
        }

        int turnOf(int wish, int what) {
            if (wish < 0 || wish >= state.wishes.size()) {
                return NO_SUCH;
            }
            if (what != 0 && what != 1) {
                return BAD_VALUE;
            }
            Wish w = state.wishes.get(wish);
            if (!state.ready(w)) {
                return NONE;
            }
            State then = state.until(w, null);
            return what == 0 ? then.turns.size() - state.turns.size() : then.minute();
        }

        int endOfAll() {
            State s = state.copy();
            while (s.singOne()) {
                continue;
            }
            return s.minute();
        }

        int ifLeft(int singer) {
            if (!state.singer(singer)) {
                return NO_SUCH;
            }
            State s = state.copy();
            s.there.set(singer, false);
            return (int) s.wishes.stream().filter(w -> !s.ready(w)).count();
        }

        int heldUpBy(int wish, int what) {
            if (wish < 0 || wish >= state.wishes.size()) {
                return NO_SUCH;
            }
            if (what != 0 && what != 1) {
                return BAD_VALUE;
            }
            Wish w = state.wishes.get(wish);
            if (!state.ready(w) || state.wishes.size() == 1) {
                return NONE;
            }
            int begin = state.until(w, null).minute();
            List<Integer> earlier = state.wishes.stream()
                    .map(o -> o.equals(w) ? Integer.MIN_VALUE : begin - state.until(w, o).minute())
                    .collect(Collectors.toList());
            int most = Collections.max(earlier);
            return what == 0 ? earlier.indexOf(most) : most;
        }

        int together(int one, int other) {
            if (!state.singer(one) || !state.singer(other)) {
                return NO_SUCH;
            }
            if (one == other) {
                return BAD_VALUE;
            }
            return (int) IntStream.range(0, state.songs.size())
                    .filter(i -> state.key(List.of(one, other), i).isPresent()).count();
        }

        int put(long characters) {
            StringBuilder text = new StringBuilder();
            for (int i = 56; i >= 0; i -= 8) {
                text.append((char) (characters >>> i & 255));
            }
            String given = text.toString().replaceAll("^\0+", "");
            if (given.isEmpty() || !given.chars().allMatch(c -> c >= 33 && c <= 126)) {
                return BAD_VALUE;
            }
            if (pad.length() + given.length() > 60) {
                return TOO_MANY;
            }
            pad = pad + given;
            return pad.length();
        }

        int wipe() {
            int length = pad.length();
            pad = "";
            return length;
        }

        int undo() {
            if (history.isEmpty()) {
                return NOT_POSSIBLE;
            }
            state = history.pop();
            return history.size();
        }

        int save(int slot) {
            if (slot != 0 && slot != 1) {
                return BAD_VALUE;
            }
            slots[slot] = state.copy();
            return state.wishes.size();
        }

        int restore(int slot) {
            if (slot != 0 && slot != 1) {
                return BAD_VALUE;
            }
            if (slots[slot] == null) {
                return NOT_POSSIBLE;
            }
            history.push(state);
            if (history.size() > 6) {
                history.removeLast();
            }
            state = slots[slot].copy();
            return state.wishes.size();
        }
    }

    /** Numbers that are the same in each run of the test. */
    static final class Dice {
        long seed;

        Dice(long seed) {
            this.seed = seed * 0x9E3779B97F4A7C15L + 12345;
        }

        int below(int bound) {
            seed = seed * 6364136223846793005L + 1442695040888963407L;
            return (int) ((seed >>> 33) % bound);
        }

        /** Mostly one of the numbers below a bound, now and then one beside them. */
        int about(int bound) {
            int[] others = {-1, bound, NONE, bound + 1, Integer.MIN_VALUE, Integer.MAX_VALUE, -5, 31, 32, 60, 61};
            return bound > 0 && below(25) != 0 ? below(bound) : others[below(others.length)];
        }
    }

    /** One run: the same calls on the program and on the model. */
    static final class Run {
        final SingerQueue queue = new SingerQueue();
        final Model model = new Model();
        final Dice dice;
        final int kind;
        final List<String> told = new ArrayList<>();
        boolean right = true;

        Run(int number) {
            dice = new Dice(number);
            kind = number % 4;
        }

        void same(String call, int got, int want) {
            told.add(call + " = " + got);
            if (got != want && right) {
                right = false;
                told.add("^ answered " + got + ", the model answers " + want);
            }
        }

        int who() {
            return dice.about(model.state.voices.size());
        }

        int other() {
            return dice.below(2) == 0 ? NONE : who();
        }

        int which() {
            return dice.about(model.state.songs.size());
        }

        int wished() {
            return dice.about(model.state.wishes.size());
        }

        void play() {
            for (int i = 0; i < CALLS && right; i++) {
                if (i < 10) {
                    begin(i);
                } else if (dice.below(100) < 45) {
                    change();
                } else {
                    ask();
                }
            }
        }

        /** Wide voices in most runs, so that most wishes have a key. */
        void begin(int i) {
            if (i % 2 == 0) {
                int low = dice.below(kind == 0 ? 35 : 12);
                int high = low + 15 + dice.below(60 - low - 15 + 1);
                same("singer(" + low + ", " + high + ")", queue.singer(low, high), model.singer(low, high));
            } else {
                int low = 10 + dice.below(30);
                int high = low + dice.below(10);
                int length = 1 + dice.below(9);
                same("song(" + low + ", " + high + ", " + length + ")", queue.song(low, high, length),
                        model.song(low, high, length));
            }
        }

        void change() {
            int choice = dice.below(kind == 3 ? 17 : 22);
            if (choice == 0) {
                int low = dice.about(61);
                int high = dice.about(61);
                same("singer(" + low + ", " + high + ")", queue.singer(low, high), model.singer(low, high));
            } else if (choice == 1) {
                int low = dice.about(61);
                int high = dice.about(61);
                int length = dice.about(10);
                same("song(" + low + ", " + high + ", " + length + ")", queue.song(low, high, length),
                        model.song(low, high, length));
            } else if (choice == 2) {
                int who = who();
                boolean left = dice.below(2) == 0;
                same("leave(" + who + ", " + left + ")", queue.leave(who, left), model.leave(who, left));
            } else if (choice < 10) {
                int who = who();
                int other = other();
                int song = which();
                same("wish(" + who + ", " + other + ", " + song + ")", queue.wish(who, other, song),
                        model.wish(who, other, song));
            } else if (choice == 10) {
                int wish = wished();
                same("takeBack(" + wish + ")", queue.takeBack(wish), model.takeBack(wish));
            } else if (choice < 14) {
                int turns = dice.below(4) == 0 ? dice.about(21) : 1;
                same("sing(" + turns + ")", queue.sing(turns), model.sing(turns));
            } else if (choice == 14) {
                same("undo()", queue.undo(), model.undo());
            } else if (choice == 15) {
                int slot = dice.about(2);
                same("save(" + slot + ")", queue.save(slot), model.save(slot));
            } else if (choice == 16) {
                int slot = dice.about(2);
                same("restore(" + slot + ")", queue.restore(slot), model.restore(slot));
            } else {
                text(choice);
            }
        }

        void text(int choice) {
            if (choice == 17) {
                same("read()", queue.read(), model.read());
            } else if (choice == 18 && dice.below(2) == 0) {
                same("wipe()", queue.wipe(), model.wipe());
            } else {
                long characters = dice.below(30) == 0 ? badText() : pack(goodText());
                same("put(" + characters + ")", queue.put(characters), model.put(characters));
            }
        }

        String goodText() {
            if (dice.below(8) == 0) {
                String signs = "0123456789+:;x";
                StringBuilder text = new StringBuilder();
                for (int i = 1 + dice.below(8); i > 0; i--) {
                    text.append(signs.charAt(dice.below(signs.length())));
                }
                return text.toString();
            }
            int singers = Math.max(1, model.state.voices.size());
            String wish = dice.below(singers) + (dice.below(2) == 0 ? "+" + dice.below(singers) : "") + ":"
                    + dice.below(Math.max(1, model.state.songs.size()));
            String begin = model.pad.isEmpty() || model.pad.endsWith(";") ? "" : ";";
            String text = begin + wish;
            return text.length() <= 8 ? text : text.substring(0, 8);
        }

        long badText() {
            long[] all = {0, -1, 32, 127, 0x3000, 0x300030, Long.MIN_VALUE, Long.MAX_VALUE, 0x8030303030303030L,
                0x2030303030303030L, 0x0001000000000030L, 0x303030303030307fL};
            return all[dice.below(all.length)];
        }

        static long pack(String text) {
            long characters = 0;
            for (char c : text.toCharArray()) {
                characters = characters << 8 | c;
            }
            return characters;
        }

        void ask() {
            int choice = dice.below(14);
            int who = who();
            int other = other();
            int song = which();
            int wish = wished();
            int what = dice.about(7);
            switch (choice) {
                case 0 -> same("of(" + who + ", " + what + ")", queue.of(who, what), model.of(who, what));
                case 1 -> same("inQueue(" + wish + ", " + what + ")", queue.inQueue(wish, what), model.inQueue(wish, what));
                case 2 -> same("key(" + who + ", " + other + ", " + song + ")", queue.key(who, other, song),
                        model.key(who, other, song));
                case 3 -> same("ofSong(" + song + ", " + what + ")", queue.ofSong(song, what), model.ofSong(song, what));
                case 4 -> {
                    int back = dice.about(13);
                    same("past(" + back + ", " + what % 4 + ")", queue.past(back, what % 4), model.past(back, what % 4));
                }
                case 5, 6 -> {
                    int number = dice.about(11);
                    same("count(" + number + ")", queue.count(number), model.count(number));
                }
                case 7 -> same("turnOf(" + wish + ", " + what % 2 + ")", queue.turnOf(wish, what % 2),
                        model.turnOf(wish, what % 2));
                case 8 -> same("endOfAll()", queue.endOfAll(), model.endOfAll());
                case 9 -> same("ifLeft(" + who + ")", queue.ifLeft(who), model.ifLeft(who));
                case 10, 11 -> same("heldUpBy(" + wish + ", " + what % 3 + ")", queue.heldUpBy(wish, what % 3),
                        model.heldUpBy(wish, what % 3));
                case 12 -> same("together(" + who + ", " + other + ")", queue.together(who, other),
                        model.together(who, other));
                default -> same("fault()", queue.fault(), model.fault());
            }
        }
    }

    public static void main(String[] args) {
        int wrong = 0;
        for (int i = 0; i < RUNS && wrong < 3; i++) {
            Run run = new Run(i);
            run.play();
            if (!run.right) {
                wrong++;
                System.out.println("ModelTest: run " + i + ": " + String.join("\n  ", run.told));
            }
        }
        System.out.println("ModelTest: " + RUNS + " runs of " + CALLS + " calls, " + wrong + " wrong");
        if (wrong != 0) {
            System.exit(1);
        }
    }
}
