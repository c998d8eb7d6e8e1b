import java.util.NoSuchElementException;

/** What all tests by hand share: tapes of texts, answers that are due, and refusals that change nothing. */
abstract class Due {
    static final Class<? extends Exception> ILLEGAL = IllegalArgumentException.class;
    static final Class<? extends Exception> INDEX = IndexOutOfBoundsException.class;
    static final Class<? extends Exception> ELEMENT = NoSuchElementException.class;
    static final Class<? extends Exception> UNSUPPORTED = UnsupportedOperationException.class;
    static final int LEAST = Integer.MIN_VALUE;
    static final int GREATEST = Integer.MAX_VALUE;

    /** One who goes out, stone, bed, stone; with HALVES half of 200 grains falls at each step. */
    static final String WALK = "room out 1;room stone 2;room bed 3;door 0 1;door 1 2;person 0 1 2 1;load 0 200";
    static final String HALVES = "drop 50;sweep 30";

    static int promise = 0;
    private static String sentence = "";
    private static int wrong = 0;
    private static int checks = 0;

    interface Call {
        int go();
    }

    /** A call on some house with one of its numbers left open. */
    interface Ask {
        int of(SandHouse h, int n);
    }

    interface Make {
        SandHouse one();
    }

    static void sentence(int ofPromise, String words) {
        promise = ofPromise;
        sentence = words;
    }

    static void finish() {
        System.out.println(wrong == 0 ? checks + " answers are as due" : wrong + " answers are not as due");
        if (wrong != 0) {
            System.exit(1);
        }
    }

    private static void complain(String what) {
        wrong++;
        System.out.println("promise " + promise + (sentence.isEmpty() ? "" : " (" + sentence + ")") + ": " + what);
    }

    static void due(String what, int got, int want) {
        checks++;
        if (got != want) {
            complain(what + " answered " + got + ", due is " + want);
        }
    }

    static void due(String what, boolean got, boolean want) {
        due(what, got ? 1 : 0, want ? 1 : 0);
    }

    static void refused(String what, Class<? extends Exception> want, Call call) {
        checks++;
        try {
            int got = call.go();
            complain(what + " answered " + got + ", due is " + want);
        } catch (RuntimeException e) {
            if (e.getClass() != want) {
                complain(what + " threw " + e + ", due is " + want);
            }
        }
    }

    static void answered(String what, Call call) {
        checks++;
        try {
            call.go();
        } catch (RuntimeException e) {
            complain(what + " threw " + e + ", an answer is due");
        }
    }

    /** A refusal behind which all is as it was ahead of it. */
    static void refusedWhole(String what, Class<? extends Exception> want, SandHouse h, Call call) {
        String before = state(h);
        refused(what, want, call);
        same("all behind " + what, before, state(h));
    }

    static void same(String what, String before, String after) {
        checks++;
        if (!before.equals(after)) {
            complain(what + " was " + before + ", is " + after);
        }
    }

    /** From least to most a number is answered; on both sides of that it is refused, and nothing changes. */
    static void range(String what, int least, int most, Class<? extends Exception> want, Make make, Ask ask) {
        for (int n : new int[] {least, most}) {
            SandHouse h = make.one();
            answered(what + " of " + n, () -> ask.of(h, n));
        }
        for (int n : new int[] {least - 1, LEAST, most + 1, GREATEST}) {
            if (n < least || n > most) {
                SandHouse h = make.one();
                refusedWhole(what + " of " + n, want, h, () -> ask.of(h, n));
            }
        }
    }

    /** All that can be asked without changing anything. */
    static String state(SandHouse h) {
        StringBuilder s = new StringBuilder("counts");
        for (int what = 0; what < 15; what++) {
            s.append(' ').append(h.count(what));
        }
        int rooms = h.count(0);
        int people = h.count(2);
        for (int room = 0; room < rooms; room++) {
            s.append(", room");
            for (int what = 0; what < 7; what++) {
                s.append(' ').append(h.room(room, what));
            }
            for (int person = 0; person < people; person++) {
                s.append(" sand ").append(h.sand(room, person)).append(" rule ").append(h.rule(person, room, 1));
            }
        }
        for (int person = 0; person < people; person++) {
            s.append(", person");
            for (int what = 0; what < 7; what++) {
                s.append(' ').append(h.person(person, what));
            }
            for (int whose = 0; whose < people; whose++) {
                s.append(" load ").append(h.load(person, whose));
            }
        }
        for (int what = 0; what < 5; what++) {
            s.append(" log ").append(h.log(0, what));
        }
        int seed = h.seed(0);
        h.seed(seed);
        return s.append(" seed ").append(seed).toString();
    }

    static void tape(SandHouse h, String text) {
        h.end(0);
        more(h, text);
    }

    static void more(SandHouse h, String text) {
        int length = 0;
        int fed = 0;
        for (int i = 0; i < text.length(); i += 20) {
            int[] five = new int[5];
            for (int j = 0; j < 20; j++) {
                five[j / 4] = five[j / 4] << 8 | (i + j < text.length() ? text.charAt(i + j) & 255 : 0);
            }
            fed = h.feed(five[0], five[1], five[2], five[3], five[4]);
            length = fed - 20 + Math.min(20, text.length() - i);
        }
        h.end(length);
    }

    static SandHouse houseOf(String text) {
        SandHouse h = new SandHouse();
        tell(h, text);
        return h;
    }

    static SandHouse houseOf(String text, String law) {
        SandHouse h = houseOf(text);
        rule(h, law);
        return h;
    }

    /** Twelve ROOMS, the last of a told SORT, and eight PEOPLE: seven stay in the first ROOM, the last one in the last. */
    static SandHouse full(String sort, String more, String law) {
        SandHouse h = houseOf(times("room stone 1", 11, ";") + ";room " + sort + " 1");
        tell(h, times("person 0", 7, ";") + ";person 11");
        tell(h, more);
        rule(h, law);
        return h;
    }

    static int tell(SandHouse h, String text) {
        tape(h, text);
        return h.house();
    }

    static int rule(SandHouse h, String law) {
        tape(h, law);
        return h.law();
    }

    static void wrongHouse(String ahead, String text, int at) {
        SandHouse h = new SandHouse();
        if (!ahead.isEmpty()) {
            tell(h, ahead);
        }
        wrongHouse(h, text, at);
    }

    static void wrongHouse(SandHouse h, String text, int at) {
        tape(h, text);
        refusedWhole("house of '" + text + "'", ILLEGAL, h, h::house);
        due("fault of '" + text + "'", h.fault(), at);
        due("the tape behind '" + text + "'", h.end(1), false);
    }

    static void rightHouse(String ahead, String text) {
        SandHouse h = new SandHouse();
        if (!ahead.isEmpty()) {
            tell(h, ahead);
        }
        tape(h, text);
        answered("house of '" + text + "'", h::house);
        due("fault of '" + text + "'", h.fault(), -1);
        due("the tape behind '" + text + "'", h.end(1), false);
    }

    static void wrongLaw(String text, int at) {
        SandHouse h = new SandHouse();
        tape(h, text);
        refusedWhole("law of '" + text + "'", ILLEGAL, h, h::law);
        due("fault of '" + text + "'", h.fault(), at);
        due("the tape behind '" + text + "'", h.end(1), false);
    }

    static void rightLaw(String text, int lines) {
        SandHouse h = new SandHouse();
        tape(h, text);
        answered("law of '" + text + "'", h::law);
        due("lines of '" + text + "'", h.count(4), lines);
        due("fault of '" + text + "'", h.fault(), -1);
        due("the tape behind '" + text + "'", h.end(1), false);
    }

    /** A text of THE HOUSE that is wrong where a ^ stands in it (the ^ itself is left out). */
    static void wrongAt(String ahead, String marked) {
        wrongHouse(ahead, marked.replace("^", ""), marked.indexOf('^'));
    }

    /** A text of THE LAW that is wrong where a ^ stands in it (the ^ itself is left out). */
    static void wrongLawAt(String marked) {
        wrongLaw(marked.replace("^", ""), marked.indexOf('^'));
    }

    static String times(String s, int n, String between) {
        StringBuilder out = new StringBuilder();
        for (int i = 0; i < n; i++) {
            out.append(i > 0 ? between : "").append(s);
        }
        return out.toString();
    }

    /** The first DRAW from a SEED, worked out without an int that goes round. */
    static int drawOf(int seed) {
        return (int) ((1103515245L * seed + 12345 & 0xffffffffL) >> 16 & 32767);
    }

    /** A SEED whose first DRAW is this one, modulo 100. */
    static int seedWith(int draw) {
        for (int seed = 1; seed < 1000000; seed++) {
            if (drawOf(seed) % 100 == draw) {
                return seed;
            }
        }
        return 0;
    }

    /** Three bytes of NOON. */
    static String told(int room, int round) {
        return "" + (char) (97 + room) + (char) (round >> 8) + (char) (round & 255);
    }

    static int noon(SandHouse h, String bytes) {
        tape(h, bytes);
        return h.noon();
    }
}
