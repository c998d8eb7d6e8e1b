import java.util.NoSuchElementException;

/** A house by the sea into which sand is carried: its grains are told, moved, tried out and led back. */
public final class SandHouse {
    public static final int NONE = -1;

    private static final int MOST_BYTES = 400;
    private static final int MOST_ROOMS = 12;
    private static final int MOST_DOORS = 20;
    private static final int MOST_PEOPLE = 8;
    private static final int MOST_STEPS = 12;
    private static final int MOST_TEXTS = 12;
    private static final int MOST_LOAD = 9999;
    private static final int MOST_ROUNDS = 100;
    private static final int FEW_ROUNDS = 24;
    private static final int LATEST_ROUND = 9999;
    private static final int GREATEST = 0x7fffffff;

    private static final int OUT = 0;
    private static final int BED = 3;
    private static final int DRAIN = 4;
    private static final String SORTS = "out stone carpet bed drain";

    private static final int BRING = 0;
    private static final int DROP = 1;
    private static final int PICK = 2;
    private static final int SWEEP = 3;

    private final Tape tape = new Tape();
    private final Home home = new Home();
    private final Grains grains = new Grains();
    private final Heels rows = new Heels();
    private final Past past = new Past();
    private final Image kept = new Image();
    private final Trials trials = new Trials();
    private final HouseReader houseReader = new HouseReader();
    private final LawReader lawReader = new LawReader();
    private int wrongByte = NONE;

    public SandHouse() {
    }

    public int feed(int a, int b, int c, int d, int e) {
        if (tape.length + 20 > MOST_BYTES) {
            return NONE;
        }
        tape.append(a);
        tape.append(b);
        tape.append(c);
        tape.append(d);
        tape.append(e);
        return tape.length;
    }

    public boolean end(int n) {
        if (n < 0 || n > tape.length) {
            return false;
        }
        tape.length = n;
        return true;
    }

    public int house() throws IllegalArgumentException, UnsupportedOperationException {
        wrongByte = houseReader.read(tape, home.plan, grains);
        tape.length = 0;
        if (wrongByte != NONE) {
            throw new IllegalArgumentException("the text of the house is wrong");
        }
        if (home.plan.texts >= MOST_TEXTS) {
            throw new UnsupportedOperationException("there are twelve texts");
        }
        home.plan.copyFrom(houseReader.plan);
        grains.copyFrom(houseReader.grains);
        home.plan.texts++;
        past.forget();
        return home.plan.texts;
    }

    public int law() throws IllegalArgumentException {
        wrongByte = lawReader.read(tape);
        tape.length = 0;
        if (wrongByte != NONE) {
            throw new IllegalArgumentException("the text of the law is wrong");
        }
        home.law.copyFrom(lawReader.law);
        past.forget();
        return home.law.lines;
    }

    public int fault() {
        return wrongByte;
    }

    public int room(int room, int what) throws IndexOutOfBoundsException, NoSuchElementException {
        needRoom(room);
        switch (what) {
            case 0: return home.plan.sort[room];
            case 1: return home.plan.minutes[room];
            case 2: return grains.part[room];
            case 3: return grains.lyingIn(room);
            case 4: return home.whoIsIn(grains, room);
            case 5: return home.plan.near[room];
            case 6: return home.sweepsOf(grains, room);
            default: throw new NoSuchElementException("a room tells 0 to 6");
        }
    }

    public int sand(int room, int person) throws IndexOutOfBoundsException {
        needRoom(room);
        needPerson(person);
        return grains.lying[room * MOST_PEOPLE + person];
    }

    public int person(int person, int what) throws IndexOutOfBoundsException, NoSuchElementException {
        needPerson(person);
        switch (what) {
            case 0: return home.plan.step(person, grains.place[person]);
            case 1: return grains.carriedBy(person);
            case 2: return grains.keeps[person];
            case 3: return grains.wet[person];
            case 4: return home.plan.steps[person];
            case 5: return grains.place[person];
            case 6: return home.plan.roams(person);
            default: throw new NoSuchElementException("a person tells 0 to 6");
        }
    }

    public int load(int person, int whose) throws IndexOutOfBoundsException {
        needPerson(person);
        needPerson(whose);
        return grains.carried[person * MOST_PEOPLE + whose];
    }

    public int habit(int person, int k) throws IndexOutOfBoundsException {
        needPerson(person);
        return home.plan.step(person, k);
    }

    public int rule(int person, int room, int what) throws IndexOutOfBoundsException, NoSuchElementException {
        needPerson(person);
        needRoom(room);
        if (what < BRING || what > PICK) {
            throw new NoSuchElementException("a rule tells 0 to 2");
        }
        return home.ruleOf(grains, person, room, what);
    }

    public int rounds(int n) throws IllegalArgumentException {
        needNumber(n, 1, MOST_ROUNDS);
        past.remember(grains, rows);
        int fell = 0;
        for (int i = 0; i < n; i++) {
            fell += home.goRound(grains, rows);
        }
        return fell;
    }

    public int sweep(int room) throws IndexOutOfBoundsException {
        needRoom(room);
        past.remember(grains, rows);
        grains.spent += home.plan.minutes[room];
        return home.sweepOnce(grains, room);
    }

    public int beat(int person) throws IndexOutOfBoundsException {
        needPerson(person);
        past.remember(grains, rows);
        return grains.beatOut(person);
    }

    public int tool(int room, int part) throws IndexOutOfBoundsException, IllegalArgumentException {
        needRoom(room);
        needNumber(part, 0, 100);
        past.remember(grains, rows);
        int before = grains.part[room];
        grains.part[room] = part;
        return before;
    }

    public int keep(int person, int keeps) throws IndexOutOfBoundsException, IllegalArgumentException {
        needPerson(person);
        needNumber(keeps, 0, 100);
        past.remember(grains, rows);
        int before = grains.keeps[person];
        grains.keeps[person] = keeps;
        return before;
    }

    public int soak(int person, int rounds) throws IndexOutOfBoundsException, IllegalArgumentException {
        needPerson(person);
        needNumber(rounds, 0, 99);
        past.remember(grains, rows);
        int before = grains.wet[person];
        grains.wet[person] = rounds;
        return before;
    }

    public int trial(int n, int what) throws IllegalArgumentException, NoSuchElementException {
        needNumber(n, 0, MOST_ROUNDS);
        if (what < 0 || what > 3) {
            throw new NoSuchElementException("a trial tells 0 to 3");
        }
        return trials.outcome(home, grains, n, what);
    }

    public int worth(int room, int part, int n) throws IndexOutOfBoundsException, IllegalArgumentException {
        needRoom(room);
        needNumber(part, 1, 100);
        needNumber(n, 0, MOST_ROUNDS);
        return trials.worthOf(home, grains, room, part, n);
    }

    public int stand(int part, int n, boolean all) throws IllegalArgumentException {
        needNumber(part, 1, 100);
        needNumber(n, 0, FEW_ROUNDS);
        return trials.bestRoom(home, grains, part, n, all);
    }

    public int two(int part, int n) throws IllegalArgumentException {
        needNumber(part, 1, 100);
        needNumber(n, 0, FEW_ROUNDS);
        return trials.bestPair(home, grains, part, n);
    }

    public int keepers(int limit, int n) throws IllegalArgumentException {
        needNumber(limit, 0, GREATEST);
        needNumber(n, 0, FEW_ROUNDS);
        return trials.fewestKeepers(home, grains, limit, n);
    }

    public int chores(int limit, boolean rooms) throws IllegalArgumentException {
        needNumber(limit, 0, GREATEST);
        int best = trials.quickestRooms(home, grains, limit);
        if (best == NONE || rooms) {
            return best;
        }
        return home.plan.minutesOf(best);
    }

    public int often(int limit, int n) throws IllegalArgumentException {
        needNumber(limit, 0, GREATEST);
        needNumber(n, 1, FEW_ROUNDS);
        return trials.seldomest(home, grains, limit, n);
    }

    public int when(int limit) throws IllegalArgumentException {
        needNumber(limit, 1, 99999);
        return trials.firstInBeds(home, grains, limit);
    }

    public int clogs() {
        return trials.firstClogged(home, grains);
    }

    public int fades(int limit) throws IllegalArgumentException {
        needNumber(limit, 0, GREATEST);
        return trials.sweepingsTill(home, grains, limit);
    }

    public int later(int room, int n) throws IndexOutOfBoundsException, IllegalArgumentException {
        needRoom(room);
        needNumber(n, 0, FEW_ROUNDS);
        return trials.bestMoment(home, grains, room, n);
    }

    public int towel(int person, int room, int n) throws IndexOutOfBoundsException, IllegalArgumentException {
        needPerson(person);
        needRoom(room);
        needNumber(n, 0, FEW_ROUNDS);
        return trials.towelWorth(home, grains, person, room, n);
    }

    public int towelled(int person, int n) throws IndexOutOfBoundsException, IllegalArgumentException {
        needPerson(person);
        needNumber(n, 0, FEW_ROUNDS);
        return trials.bestTowel(home, grains, person, n);
    }

    public int span(int n, boolean most) throws IllegalArgumentException {
        needNumber(n, 0, FEW_ROUNDS);
        return trials.extreme(home, grains, n, most);
    }

    public int peak(int n) throws IllegalArgumentException {
        needNumber(n, 1, MOST_ROUNDS);
        return trials.steepest(home, grains, n);
    }

    public int carries(int person, boolean many) throws IndexOutOfBoundsException {
        needPerson(person);
        int first = person * MOST_PEOPLE;
        return many ? grains.owners(grains.carried, first) : grains.mostOf(grains.carried, first);
    }

    public int whose(int room) throws IndexOutOfBoundsException {
        needRoom(room);
        return grains.mostOf(grains.lying, room * MOST_PEOPLE);
    }

    public int share(int room, int person) throws IndexOutOfBoundsException {
        needRoom(room);
        needPerson(person);
        long all = grains.lyingIn(room);
        if (all <= 0) {
            return 0;
        }
        return (int) (10000L * grains.lying[room * MOST_PEOPLE + person] / all);
    }

    public int blame() {
        return home.mostInBeds(grains);
    }

    public int itch(int grains) throws IllegalArgumentException {
        needNumber(grains, 0, GREATEST);
        return home.bedsAbove(this.grains, grains);
    }

    public int ways(int from, int to) throws IndexOutOfBoundsException {
        needRoom(from);
        needRoom(to);
        return home.plan.fewestDoors(from, to);
    }

    public int cross(int one, int other) throws IndexOutOfBoundsException, IllegalArgumentException {
        needPerson(one);
        needPerson(other);
        if (one == other) {
            throw new IllegalArgumentException("both are one");
        }
        return home.firstMeeting(grains, one, other);
    }

    public int noon() throws IllegalArgumentException {
        int length = tape.length;
        tape.length = 0;
        if (!tape.tellsNoons(length, home.plan.rooms)) {
            throw new IllegalArgumentException("the tape tells no rooms and rounds");
        }
        int who = home.plan.everybody();
        for (int i = 0; i + 2 < length; i += 3) {
            who &= home.whoWasIn(grains, tape.noonRoom(i), tape.noonRound(i));
        }
        return who;
    }

    public int heels(int rooms) {
        int who = home.plan.everybody();
        for (int room = 0; room < home.plan.rooms; room++) {
            if ((rooms >> room & 1) != 0) {
                who &= rows.whoIn(room);
            }
        }
        return who;
    }

    public int log(int ago, int what) throws NoSuchElementException {
        if (what < 0 || what >= Heels.WIDTH) {
            throw new NoSuchElementException("a row tells 0 to 4");
        }
        return rows.get(ago, what);
    }

    public int led(int room, int k) throws IndexOutOfBoundsException, IllegalArgumentException {
        needRoom(room);
        needNumber(k, 0, GREATEST);
        return rows.ledBack(room, k);
    }

    public int seed(int n) {
        int before = grains.seed;
        grains.seed = n;
        return before;
    }

    public boolean undo() {
        return past.recall(grains, rows);
    }

    public void image() {
        kept.take(home, grains, rows);
    }

    public boolean back() {
        if (!kept.taken) {
            return false;
        }
        kept.give(home, grains, rows);
        past.forget();
        return true;
    }

    public int count(int what) {
        switch (what) {
            case 0: return home.plan.rooms;
            case 1: return home.plan.doors;
            case 2: return home.plan.people;
            case 3: return home.plan.texts;
            case 4: return home.law.lines;
            case 5: return grains.round;
            case 6: return grains.allLying();
            case 7: return grains.allCarried();
            case 8: return grains.gone;
            case 9: return grains.told;
            case 10: return grains.drained;
            case 11: return grains.clog;
            case 12: return grains.spent;
            case 13: return rows.size;
            case 14: return past.size;
            default: return NONE;
        }
    }

    private void needRoom(int room) {
        if (room < 0 || room >= home.plan.rooms) {
            throw new IndexOutOfBoundsException("there is no such room");
        }
    }

    private void needPerson(int person) {
        if (person < 0 || person >= home.plan.people) {
            throw new IndexOutOfBoundsException("there is no such person");
        }
    }

    private static void needNumber(int n, int least, int most) {
        if (n < least || n > most) {
            throw new IllegalArgumentException("the number is none");
        }
    }

    /** The bytes that were fed, and the things (numbers, words, signs) that a text of them holds. */
    private static final class Tape {
        private static final int END = 0;
        private static final int NUMBER = 1;
        private static final int WORD = 2;
        private static final int SIGN = 3;
        /** Numbers of more digits are refused everywhere, so their value is of no matter. */
        private static final int DIGITS_KEPT = 9;

        private final int[] bytes = new int[MOST_BYTES];
        private int length = 0;
        private int kind = END;
        private int start = 0;
        private int behind = 0;
        private int value = 0;

        private void append(int four) {
            for (int shift = 24; shift >= 0; shift -= 8) {
                if (length < MOST_BYTES) {
                    bytes[length] = four >> shift & 255;
                    length++;
                }
            }
        }

        private void begin() {
            behind = 0;
            advance();
        }

        /** Goes on to the next thing; at the end of the text its start is the text's length. */
        private void advance() {
            int at = behind;
            while (at < length && bytes[at] == ' ') {
                at++;
            }
            start = at;
            value = 0;
            kind = at >= length ? END : SIGN;
            while (at < length && bytes[at] >= '0' && bytes[at] <= '9') {
                if (at - start < DIGITS_KEPT) {
                    value = value * 10 + bytes[at] - '0';
                }
                kind = NUMBER;
                at++;
            }
            while (kind != NUMBER && at < length && bytes[at] >= 'a' && bytes[at] <= 'z') {
                kind = WORD;
                at++;
            }
            behind = kind == SIGN ? at + 1 : at;
        }

        private boolean isNumber(int mostDigits) {
            return kind == NUMBER && behind - start <= mostDigits;
        }

        private boolean isSign(char sign) {
            return kind == SIGN && bytes[start] == sign;
        }

        private boolean isWord(String word) {
            return wordAmong(word) == 0;
        }

        /** Which of some words, told with single blanks between them, stands here; NONE of them. */
        private int wordAmong(String words) {
            if (kind != WORD) {
                return NONE;
            }
            int which = 0;
            int same = 0;
            for (int i = 0; i <= words.length(); i++) {
                char c = i < words.length() ? words.charAt(i) : ' ';
                if (c == ' ') {
                    if (start + same == behind) {
                        return which;
                    }
                    which++;
                    same = 0;
                } else if (same >= 0 && start + same < behind && bytes[start + same] == c) {
                    same++;
                } else {
                    same = NONE;
                }
            }
            return NONE;
        }

        private boolean tellsNoons(int bytesTold, int rooms) {
            if (bytesTold % 3 != 0) {
                return false;
            }
            for (int i = 0; i + 2 < bytesTold; i += 3) {
                int room = noonRoom(i);
                if (room < 0 || room >= rooms || noonRound(i) > LATEST_ROUND) {
                    return false;
                }
            }
            return true;
        }

        private int noonRoom(int i) {
            return bytes[i] - 'a';
        }

        private int noonRound(int i) {
            return bytes[i + 1] << 8 | bytes[i + 2];
        }
    }

    /** What texts alone tell: ROOMS, DOORS and HABITS. */
    private static final class Plan {
        private int rooms = 0;
        private int doors = 0;
        private int people = 0;
        private int texts = 0;
        private final int[] sort = new int[MOST_ROOMS];
        private final int[] minutes = new int[MOST_ROOMS];
        private final int[] near = new int[MOST_ROOMS];
        private final int[] steps = new int[MOST_PEOPLE];
        private final int[] walk = new int[MOST_PEOPLE * MOST_STEPS];

        private void copyFrom(Plan other) {
            rooms = other.rooms;
            doors = other.doors;
            people = other.people;
            texts = other.texts;
            System.arraycopy(other.sort, 0, sort, 0, MOST_ROOMS);
            System.arraycopy(other.minutes, 0, minutes, 0, MOST_ROOMS);
            System.arraycopy(other.near, 0, near, 0, MOST_ROOMS);
            System.arraycopy(other.steps, 0, steps, 0, MOST_PEOPLE);
            System.arraycopy(other.walk, 0, walk, 0, MOST_PEOPLE * MOST_STEPS);
        }

        private boolean leads(int from, int to) {
            return from == to || (near[from] >> to & 1) != 0;
        }

        private int everybody() {
            return (1 << people) - 1;
        }

        /** The k-th ROOM of a HABIT; NONE, if there is none. */
        private int step(int person, int k) {
            if (k < 0 || k >= steps[person]) {
                return NONE;
            }
            return walk[person * MOST_STEPS + k];
        }

        /** The ROOM of a HABIT so many steps behind (or, below 0, ahead of) a place in it. */
        private int stepFrom(int person, int place, int far) {
            if (steps[person] <= 0) {
                return NONE;
            }
            return step(person, Math.floorMod(place + far, steps[person]));
        }

        private int roams(int person) {
            int bits = 0;
            for (int k = 0; k < steps[person]; k++) {
                bits |= 1 << walk[person * MOST_STEPS + k];
            }
            return bits;
        }

        private int minutesOf(int roomBits) {
            int sum = 0;
            for (int room = 0; room < rooms; room++) {
                if ((roomBits >> room & 1) != 0) {
                    sum += minutes[room];
                }
            }
            return sum;
        }

        private int fewestDoors(int from, int to) {
            int reached = 1 << from;
            for (int doorsPassed = 0; doorsPassed < MOST_ROOMS; doorsPassed++) {
                if ((reached >> to & 1) != 0) {
                    return doorsPassed;
                }
                int wider = reached;
                for (int room = 0; room < rooms; room++) {
                    if ((reached >> room & 1) != 0) {
                        wider |= near[room];
                    }
                }
                reached = wider;
            }
            return NONE;
        }
    }

    /** Where all grains are, and what acts and ROUNDS change. */
    private static final class Grains {
        private final int[] part = new int[MOST_ROOMS];
        private final int[] place = new int[MOST_PEOPLE];
        private final int[] keeps = new int[MOST_PEOPLE];
        private final int[] wet = new int[MOST_PEOPLE];
        /** By ROOM, then by whose. */
        private final int[] lying = new int[MOST_ROOMS * MOST_PEOPLE];
        /** By who carries, then by whose. */
        private final int[] carried = new int[MOST_PEOPLE * MOST_PEOPLE];
        private int gone = 0;
        private int told = 0;
        private int drained = 0;
        private int clog = 1000;
        private int round = 0;
        private int spent = 0;
        private int seed = 1;

        private void copyFrom(Grains other) {
            System.arraycopy(other.part, 0, part, 0, MOST_ROOMS);
            System.arraycopy(other.place, 0, place, 0, MOST_PEOPLE);
            System.arraycopy(other.keeps, 0, keeps, 0, MOST_PEOPLE);
            System.arraycopy(other.wet, 0, wet, 0, MOST_PEOPLE);
            System.arraycopy(other.lying, 0, lying, 0, MOST_ROOMS * MOST_PEOPLE);
            System.arraycopy(other.carried, 0, carried, 0, MOST_PEOPLE * MOST_PEOPLE);
            gone = other.gone;
            told = other.told;
            drained = other.drained;
            clog = other.clog;
            round = other.round;
            spent = other.spent;
            seed = other.seed;
        }

        private int lyingIn(int room) {
            int sum = 0;
            for (int i = room * MOST_PEOPLE; i < room * MOST_PEOPLE + MOST_PEOPLE; i++) {
                sum += lying[i];
            }
            return sum;
        }

        private int carriedBy(int person) {
            int sum = 0;
            for (int i = person * MOST_PEOPLE; i < person * MOST_PEOPLE + MOST_PEOPLE; i++) {
                sum += carried[i];
            }
            return sum;
        }

        private int allLying() {
            int sum = 0;
            for (int room = 0; room < MOST_ROOMS; room++) {
                sum += lyingIn(room);
            }
            return sum;
        }

        private int allCarried() {
            int sum = 0;
            for (int person = 0; person < MOST_PEOPLE; person++) {
                sum += carriedBy(person);
            }
            return sum;
        }

        private static int hundredths(int grains, int percent) {
            return (int) ((long) grains * percent / 100);
        }

        private int draw() {
            seed = 1103515245 * seed + 12345;
            return seed >>> 16 & 32767;
        }

        private void comeOnto(int person, int grains) {
            int more = Math.min(grains, MOST_LOAD - carriedBy(person));
            carried[person * MOST_PEOPLE + person] += more;
            told += more;
        }

        private void comeInto(int room, int person, int grains) {
            lying[room * MOST_PEOPLE + person] += grains;
            told += grains;
        }

        private int takeFrom(int person, int percent) {
            int taken = 0;
            for (int whose = 0; whose < MOST_PEOPLE; whose++) {
                int n = hundredths(carried[person * MOST_PEOPLE + whose], percent);
                carried[person * MOST_PEOPLE + whose] -= n;
                taken += n;
            }
            gone += taken;
            return taken;
        }

        private int beatOut(int person) {
            return takeFrom(person, 50);
        }

        private int takeOutOf(int room, int percent) {
            int taken = 0;
            for (int whose = 0; whose < MOST_PEOPLE; whose++) {
                int n = hundredths(lying[room * MOST_PEOPLE + whose], percent);
                lying[room * MOST_PEOPLE + whose] -= n;
                taken += n;
            }
            gone += taken;
            return taken;
        }

        private int fall(int person, int room, int percent) {
            int fell = 0;
            for (int whose = 0; whose < MOST_PEOPLE; whose++) {
                int n = hundredths(carried[person * MOST_PEOPLE + whose], percent);
                carried[person * MOST_PEOPLE + whose] -= n;
                lying[room * MOST_PEOPLE + whose] += n;
                fell += n;
            }
            return fell;
        }

        private void cling(int person, int room, int percent) {
            long all = carriedBy(person);
            for (int whose = 0; whose < MOST_PEOPLE; whose++) {
                all += hundredths(lying[room * MOST_PEOPLE + whose], percent);
            }
            if (all > MOST_LOAD) {
                return;
            }
            for (int whose = 0; whose < MOST_PEOPLE; whose++) {
                int n = hundredths(lying[room * MOST_PEOPLE + whose], percent);
                lying[room * MOST_PEOPLE + whose] -= n;
                carried[person * MOST_PEOPLE + whose] += n;
            }
        }

        /** Whose grains are the most of eight numbers that stand in a row; NONE, if there are none. */
        private int mostOf(int[] row, int first) {
            int best = NONE;
            int most = 0;
            for (int whose = 0; whose < MOST_PEOPLE; whose++) {
                if (row[first + whose] > most) {
                    most = row[first + whose];
                    best = whose;
                }
            }
            return best;
        }

        private int owners(int[] row, int first) {
            int n = 0;
            for (int whose = 0; whose < MOST_PEOPLE; whose++) {
                if (row[first + whose] > 0) {
                    n++;
                }
            }
            return n;
        }
    }

    /** THE LOG: the latest times that grains fell, as a ring. */
    private static final class Heels {
        private static final int MOST_ROWS = 80;
        private static final int WIDTH = 5;
        private static final int WHO = 1;
        private static final int WHERE = 2;
        private static final int FROM = 4;

        private final int[] cells = new int[MOST_ROWS * WIDTH];
        private int size = 0;
        private int next = 0;

        private void copyFrom(Heels other) {
            System.arraycopy(other.cells, 0, cells, 0, MOST_ROWS * WIDTH);
            size = other.size;
            next = other.next;
        }

        private void write(int round, int who, int where, int grains, int from) {
            int first = next * WIDTH;
            cells[first] = round;
            cells[first + WHO] = who;
            cells[first + WHERE] = where;
            cells[first + 3] = grains;
            cells[first + FROM] = from;
            next = next + 1 < MOST_ROWS ? next + 1 : 0;
            size = Math.min(size + 1, MOST_ROWS);
        }

        private int get(int ago, int what) {
            if (ago < 0 || ago >= size) {
                return NONE;
            }
            return cells[Math.floorMod(next - 1 - ago, MOST_ROWS) * WIDTH + what];
        }

        private int whoIn(int room) {
            int bits = 0;
            for (int ago = 0; ago < size; ago++) {
                if (get(ago, WHERE) == room) {
                    bits |= 1 << get(ago, WHO);
                }
            }
            return bits;
        }

        private int ledBack(int room, int k) {
            int at = room;
            int passed = 0;
            for (int ago = 0; ago < size && passed < k; ago++) {
                if (get(ago, WHERE) == at) {
                    at = get(ago, FROM);
                    passed++;
                }
            }
            return passed == k ? at : NONE;
        }
    }

    /** THE LAW: its conditions stand as words of a code, each behind what it is about. */
    private static final class Law {
        private static final int MOST_LINES = 12;

        /** Facts of a PERSON and a ROOM: six numbers, then, as 0 or 1, which SORT it is and whether one is WET. */
        private static final int PERSON = 0;
        private static final int ROOM = 1;
        private static final int LOAD = 2;
        private static final int HERE = 3;
        private static final int ROUND = 4;
        private static final int PART = 5;
        private static final int SORT = 6;
        private static final int WET = 11;
        private static final int FACTS = 12;

        /** Below it a code word is a number of the text; from it on, a fact; behind the facts, what joins. */
        private static final int FIRST_FACT = 1000;
        private static final int NOT = 1020;
        private static final int PLUS = 1021;
        private static final int LESS = 1022;
        private static final int MORE = 1023;
        private static final int AND = 1024;
        private static final int OR = 1025;
        /** Six ( deep there are two open sides a level, and three of a comparison. */
        private static final int DEEPEST = 32;

        private int lines = NONE;
        private int length = 0;
        private final int[] kind = new int[MOST_LINES];
        private final int[] amount = new int[MOST_LINES];
        private final int[] from = new int[MOST_LINES];
        private final int[] to = new int[MOST_LINES];
        private final int[] code = new int[MOST_BYTES];
        private final long[] stack = new long[DEEPEST];

        private void copyFrom(Law other) {
            lines = other.lines;
            length = other.length;
            System.arraycopy(other.kind, 0, kind, 0, MOST_LINES);
            System.arraycopy(other.amount, 0, amount, 0, MOST_LINES);
            System.arraycopy(other.from, 0, from, 0, MOST_LINES);
            System.arraycopy(other.to, 0, to, 0, MOST_LINES);
            System.arraycopy(other.code, 0, code, 0, MOST_BYTES);
        }

        private void clear() {
            lines = 0;
            length = 0;
        }

        private void openLine(int lineKind, int lineAmount) {
            if (lines < MOST_LINES) {
                kind[lines] = lineKind;
                amount[lines] = lineAmount;
                from[lines] = length;
            }
        }

        private void closeLine() {
            if (lines < MOST_LINES) {
                to[lines] = length;
                lines++;
            }
        }

        private void write(int word) {
            if (length < MOST_BYTES) {
                code[length] = word;
                length++;
            }
        }

        private int amountOf(int what, int[] facts) {
            if (lines == NONE) {
                return unwritten(what, facts);
            }
            int sum = 0;
            for (int i = 0; i < lines; i++) {
                if (kind[i] == what && holds(i, facts)) {
                    sum += amount[i];
                }
            }
            return Math.min(sum, what == BRING ? 200 : 100);
        }

        private static int unwritten(int what, int[] facts) {
            switch (what) {
                case BRING: return facts[SORT + OUT] * 50;
                case DROP: return 20;
                case PICK: return 5;
                default: return 50;
            }
        }

        private boolean holds(int line, int[] facts) {
            int top = 0;
            for (int i = from[line]; i < to[line]; i++) {
                int word = code[i];
                if (word < NOT) {
                    if (top < DEEPEST) {
                        stack[top] = word < FIRST_FACT ? word : facts[word - FIRST_FACT];
                        top++;
                    }
                } else if (word == NOT) {
                    if (top > 0) {
                        stack[top - 1] = 1 - stack[top - 1];
                    }
                } else if (top > 1) {
                    top--;
                    long left = stack[top - 1];
                    long right = stack[top];
                    switch (word) {
                        case PLUS: stack[top - 1] = left + right; break;
                        case LESS: stack[top - 1] = left < right ? 1 : 0; break;
                        case MORE: stack[top - 1] = left > right ? 1 : 0; break;
                        case AND: stack[top - 1] = left & right; break;
                        default: stack[top - 1] = left | right; break;
                    }
                }
            }
            return top == 0 || stack[0] != 0;
        }
    }

    /** The PLAN and THE LAW together: how grains move by them. */
    private static final class Home {
        private final Plan plan = new Plan();
        private final Law law = new Law();
        private final int[] facts = new int[Law.FACTS];

        private void look(Grains g, int person, int room) {
            facts[Law.PERSON] = person;
            facts[Law.ROOM] = room;
            facts[Law.LOAD] = g.carriedBy(person);
            facts[Law.HERE] = g.lyingIn(room);
            facts[Law.ROUND] = g.round;
            facts[Law.PART] = g.part[room];
            for (int sort = OUT; sort <= DRAIN; sort++) {
                facts[Law.SORT + sort] = plan.sort[room] == sort ? 1 : 0;
            }
            facts[Law.WET] = g.wet[person] > 0 ? 1 : 0;
        }

        private int ruleOf(Grains g, int person, int room, int what) {
            look(g, person, room);
            return law.amountOf(what, facts);
        }

        private int sweepsOf(Grains g, int room) {
            look(g, 0, room);
            facts[Law.LOAD] = 0;
            facts[Law.WET] = 0;
            return law.amountOf(SWEEP, facts);
        }

        private int goRound(Grains g, Heels heels) {
            int fell = 0;
            for (int person = 0; person < plan.people; person++) {
                fell += goOn(g, person, heels);
            }
            for (int room = 0; room < plan.rooms; room++) {
                if (plan.sort[room] == DRAIN && g.drained < g.clog) {
                    g.drained += g.takeOutOf(room, 10);
                }
            }
            g.round++;
            return fell;
        }

        /** A TRIAL has no heels: null. */
        private int goOn(Grains g, int person, Heels heels) {
            int before = plan.step(person, g.place[person]);
            g.place[person] = g.place[person] + 1 < plan.steps[person] ? g.place[person] + 1 : 0;
            int room = plan.step(person, g.place[person]);
            if (before == NONE || room == NONE) {
                return 0;
            }
            look(g, person, room);
            g.comeOnto(person, law.amountOf(BRING, facts));
            if (g.part[room] > 0 && g.draw() % 100 < g.keeps[person]) {
                g.takeFrom(person, g.part[room]);
            }
            int fell = 0;
            if (g.wet[person] == 0) {
                look(g, person, room);
                fell = g.fall(person, room, law.amountOf(DROP, facts));
            }
            look(g, person, room);
            g.cling(person, room, law.amountOf(PICK, facts));
            g.wet[person] = Math.max(g.wet[person] - 1, 0);
            if (fell > 0 && heels != null) {
                heels.write(g.round, person, room, fell, before);
            }
            return fell;
        }

        private int sweepOnce(Grains g, int room) {
            return g.takeOutOf(room, sweepsOf(g, room));
        }

        private void sweepInside(Grains g) {
            for (int room = 0; room < plan.rooms; room++) {
                if (plan.sort[room] != OUT) {
                    sweepOnce(g, room);
                }
            }
        }

        private int inBeds(Grains g) {
            int sum = 0;
            for (int room = 0; room < plan.rooms; room++) {
                if (plan.sort[room] == BED) {
                    sum += g.lyingIn(room);
                }
            }
            return sum;
        }

        private int inside(Grains g) {
            int sum = 0;
            for (int room = 0; room < plan.rooms; room++) {
                if (plan.sort[room] != OUT) {
                    sum += g.lyingIn(room);
                }
            }
            return sum;
        }

        private int mostInBeds(Grains g) {
            int best = NONE;
            int most = 0;
            for (int whose = 0; whose < plan.people; whose++) {
                int sum = 0;
                for (int room = 0; room < plan.rooms; room++) {
                    if (plan.sort[room] == BED) {
                        sum += g.lying[room * MOST_PEOPLE + whose];
                    }
                }
                if (sum > most) {
                    most = sum;
                    best = whose;
                }
            }
            return best;
        }

        private int bedsAbove(Grains g, int limit) {
            int bits = 0;
            for (int room = 0; room < plan.rooms; room++) {
                if (plan.sort[room] == BED && g.lyingIn(room) > limit) {
                    bits |= 1 << room;
                }
            }
            return bits;
        }

        private int whoIsIn(Grains g, int room) {
            return whoWasIn(g, room, g.round);
        }

        private int whoWasIn(Grains g, int room, int round) {
            int bits = 0;
            for (int person = 0; person < plan.people; person++) {
                if (plan.stepFrom(person, g.place[person], round - g.round) == room) {
                    bits |= 1 << person;
                }
            }
            return bits;
        }

        private int firstMeeting(Grains g, int one, int other) {
            for (int more = 0; more <= 144; more++) {
                int room = plan.stepFrom(one, g.place[one], more);
                if (room == plan.stepFrom(other, g.place[other], more)) {
                    return g.round + more;
                }
            }
            return NONE;
        }
    }

    /** What would be: all on grains of its own, so that nothing stays. */
    private static final class Trials {
        private static final int LONGEST = 300;
        private static final int MOST_SWEEPINGS = 99;
        private static final int SEEDS = 8;

        private final Grains trial = new Grains();
        private final int[] swept = new int[MOST_ROOMS];

        /** Grains in beds behind so many ROUNDS more of the trial. */
        private int bedsBehind(Home home, int n) {
            for (int i = 0; i < n; i++) {
                home.goRound(trial, null);
            }
            return home.inBeds(trial);
        }

        private int outcome(Home home, Grains now, int n, int what) {
            trial.copyFrom(now);
            int beds = bedsBehind(home, n);
            switch (what) {
                case 0: return beds;
                case 1: return home.inside(trial);
                case 2: return trial.allCarried();
                default: return trial.gone;
            }
        }

        private int worthOf(Home home, Grains now, int room, int part, int n) {
            trial.copyFrom(now);
            int without = bedsBehind(home, n);
            trial.copyFrom(now);
            trial.part[room] = part;
            return without - bedsBehind(home, n);
        }

        private int bestRoom(Home home, Grains now, int part, int n, boolean all) {
            int best = NONE;
            int fewest = 0;
            for (int room = 0; room < home.plan.rooms; room++) {
                if (now.part[room] > 0) {
                    continue;
                }
                trial.copyFrom(now);
                trial.part[room] = part;
                int beds = bedsBehind(home, n);
                int left = all ? home.inside(trial) : beds;
                if (best == NONE || left < fewest) {
                    best = room;
                    fewest = left;
                }
            }
            return best;
        }

        /** Pairs go by their greater ROOM, so that their bits grow: the first of the best has the least. */
        private int bestPair(Home home, Grains now, int part, int n) {
            int best = NONE;
            int fewest = 0;
            for (int high = 1; high < home.plan.rooms; high++) {
                for (int low = 0; low < high; low++) {
                    if (now.part[high] > 0 || now.part[low] > 0) {
                        continue;
                    }
                    trial.copyFrom(now);
                    trial.part[high] = part;
                    trial.part[low] = part;
                    int beds = bedsBehind(home, n);
                    if (best == NONE || beds < fewest) {
                        best = 1 << high | 1 << low;
                        fewest = beds;
                    }
                }
            }
            return best;
        }

        private int fewestKeepers(Home home, Grains now, int limit, int n) {
            for (int many = 0; many <= home.plan.people; many++) {
                for (int bits = 0; bits <= home.plan.everybody(); bits++) {
                    if (Integer.bitCount(bits) != many) {
                        continue;
                    }
                    trial.copyFrom(now);
                    for (int person = 0; person < home.plan.people; person++) {
                        trial.keeps[person] = (bits >> person & 1) * 100;
                    }
                    if (bedsBehind(home, n) <= limit) {
                        return bits;
                    }
                }
            }
            return NONE;
        }

        private int quickestRooms(Home home, Grains now, int limit) {
            trial.copyFrom(now);
            int indoors = 0;
            for (int room = 0; room < home.plan.rooms; room++) {
                swept[room] = home.sweepOnce(trial, room);
                if (home.plan.sort[room] != OUT) {
                    indoors |= 1 << room;
                }
            }
            int lying = home.inside(now);
            int best = NONE;
            int quickest = 0;
            for (int bits = 0; bits <= indoors; bits++) {
                if ((bits & ~indoors) != 0 || lying - sweptOf(bits, home.plan.rooms) > limit) {
                    continue;
                }
                int minutes = home.plan.minutesOf(bits);
                if (best == NONE || minutes < quickest) {
                    best = bits;
                    quickest = minutes;
                }
            }
            return best;
        }

        private int sweptOf(int roomBits, int rooms) {
            int sum = 0;
            for (int room = 0; room < rooms; room++) {
                if ((roomBits >> room & 1) != 0) {
                    sum += swept[room];
                }
            }
            return sum;
        }

        private int seldomest(Home home, Grains now, int limit, int n) {
            for (int k = n; k >= 1; k--) {
                if (staysBelow(home, now, limit, n, k)) {
                    return k;
                }
            }
            return NONE;
        }

        private boolean staysBelow(Home home, Grains now, int limit, int n, int k) {
            trial.copyFrom(now);
            int since = 0;
            for (int i = 0; i < n; i++) {
                home.goRound(trial, null);
                since++;
                if (since == k) {
                    home.sweepInside(trial);
                    since = 0;
                }
                if (home.inBeds(trial) > limit) {
                    return false;
                }
            }
            return true;
        }

        private int firstInBeds(Home home, Grains now, int limit) {
            trial.copyFrom(now);
            for (int n = 0; n <= LONGEST; n++) {
                if (home.inBeds(trial) >= limit) {
                    return n;
                }
                home.goRound(trial, null);
            }
            return NONE;
        }

        private int firstClogged(Home home, Grains now) {
            trial.copyFrom(now);
            for (int n = 0; n <= LONGEST; n++) {
                if (trial.drained >= trial.clog) {
                    return n;
                }
                home.goRound(trial, null);
            }
            return NONE;
        }

        private int sweepingsTill(Home home, Grains now, int limit) {
            trial.copyFrom(now);
            for (int n = 0; n <= MOST_SWEEPINGS; n++) {
                if (home.inside(trial) <= limit) {
                    return n;
                }
                home.sweepInside(trial);
            }
            return NONE;
        }

        private int bestMoment(Home home, Grains now, int room, int n) {
            int best = 0;
            int fewest = 0;
            for (int k = 0; k <= n; k++) {
                trial.copyFrom(now);
                bedsBehind(home, k);
                home.sweepOnce(trial, room);
                bedsBehind(home, n - k);
                int left = trial.lyingIn(room);
                if (k == 0 || left < fewest) {
                    best = k;
                    fewest = left;
                }
            }
            return best;
        }

        private int towelWorth(Home home, Grains now, int person, int room, int n) {
            trial.copyFrom(now);
            int without = bedsBehind(home, n);
            trial.copyFrom(now);
            for (int i = 0; i < n; i++) {
                home.goRound(trial, null);
                if (home.plan.step(person, trial.place[person]) == room) {
                    trial.beatOut(person);
                }
            }
            return without - home.inBeds(trial);
        }

        private int bestTowel(Home home, Grains now, int person, int n) {
            int roams = home.plan.roams(person);
            int best = NONE;
            int most = 0;
            for (int room = 0; room < home.plan.rooms; room++) {
                if ((roams >> room & 1) == 0) {
                    continue;
                }
                int worth = towelWorth(home, now, person, room, n);
                if (best == NONE || worth > most) {
                    best = room;
                    most = worth;
                }
            }
            return best;
        }

        private int extreme(Home home, Grains now, int n, boolean most) {
            int found = 0;
            for (int seed = 1; seed <= SEEDS; seed++) {
                trial.copyFrom(now);
                trial.seed = seed;
                int beds = bedsBehind(home, n);
                if (seed == 1 || (most ? beds > found : beds < found)) {
                    found = beds;
                }
            }
            return found;
        }

        private int steepest(Home home, Grains now, int n) {
            trial.copyFrom(now);
            int best = NONE;
            int most = 0;
            int before = home.inBeds(trial);
            for (int i = 1; i <= n; i++) {
                int beds = bedsBehind(home, 1);
                if (best == NONE || beds - before > most) {
                    best = i;
                    most = beds - before;
                }
                before = beds;
            }
            return best;
        }
    }

    /** Reads a text of THE HOUSE into a plan and grains of its own, so that of a wrong text nothing stays. */
    private static final class HouseReader {
        private static final int MOST_LINES = 14;
        private static final int MOST_DIGITS = 5;

        private final Plan plan = new Plan();
        private final Grains grains = new Grains();
        private int wrong = NONE;
        private int chosen = 0;
        private int number = 0;
        private int numberStart = 0;

        /** The first wrong byte; NONE without one. */
        private int read(Tape t, Plan before, Grains grainsBefore) {
            plan.copyFrom(before);
            grains.copyFrom(grainsBefore);
            wrong = NONE;
            t.begin();
            if (t.kind == Tape.END) {
                return NONE;
            }
            for (int i = 0; i < MOST_LINES; i++) {
                if (!line(t)) {
                    return wrong;
                }
                if (t.kind == Tape.END) {
                    return NONE;
                }
                if (!t.isSign(';')) {
                    return t.start;
                }
                t.advance();
            }
            return t.start;
        }

        private boolean refuse(int at) {
            wrong = at;
            return false;
        }

        private boolean line(Tape t) {
            switch (t.wordAmong("room door person load sand tool keeps wet clog")) {
                case 0: return roomLine(t);
                case 1: return doorLine(t);
                case 2: return personLine(t);
                case 3: return loadLine(t);
                case 4: return sandLine(t);
                case 5: return toolLine(t);
                case 6: return keepsLine(t);
                case 7: return wetLine(t);
                case 8: return clogLine(t);
                default: return refuse(t.start);
            }
        }

        private boolean takeNumber(Tape t, int least, int most) {
            if (!t.isNumber(MOST_DIGITS) || t.value < least || t.value > most) {
                return refuse(t.start);
            }
            number = t.value;
            numberStart = t.start;
            t.advance();
            return true;
        }

        private boolean takeRoom(Tape t) {
            return takeNumber(t, 0, plan.rooms - 1);
        }

        /** One of so many ROOMS or PEOPLE, and a number that is told of it. */
        private boolean takeTwo(Tape t, int choices, int most) {
            if (!takeNumber(t, 0, choices - 1)) {
                return false;
            }
            chosen = number;
            return takeNumber(t, 0, most);
        }

        private boolean roomLine(Tape t) {
            if (plan.rooms >= MOST_ROOMS) {
                return refuse(t.start);
            }
            t.advance();
            int sort = t.wordAmong(SORTS);
            if (sort == NONE) {
                return refuse(t.start);
            }
            t.advance();
            if (!takeNumber(t, 1, 99)) {
                return false;
            }
            plan.sort[plan.rooms] = sort;
            plan.minutes[plan.rooms] = number;
            plan.rooms++;
            return true;
        }

        private boolean doorLine(Tape t) {
            if (plan.doors >= MOST_DOORS) {
                return refuse(t.start);
            }
            t.advance();
            if (!takeTwo(t, plan.rooms, plan.rooms - 1)) {
                return false;
            }
            if (number == chosen) {
                return refuse(numberStart);
            }
            plan.near[chosen] |= 1 << number;
            plan.near[number] |= 1 << chosen;
            plan.doors++;
            return true;
        }

        private boolean personLine(Tape t) {
            int person = plan.people;
            if (person >= MOST_PEOPLE) {
                return refuse(t.start);
            }
            t.advance();
            int steps = 0;
            int first = 0;
            int last = 0;
            do {
                if (steps >= MOST_STEPS) {
                    return refuse(t.start);
                }
                if (!takeRoom(t)) {
                    return false;
                }
                if (steps == 0) {
                    first = number;
                } else if (!plan.leads(last, number)) {
                    return refuse(numberStart);
                }
                last = number;
                plan.walk[person * MOST_STEPS + steps] = number;
                steps++;
            } while (t.kind == Tape.NUMBER);
            if (!plan.leads(last, first)) {
                return refuse(numberStart);
            }
            plan.steps[person] = steps;
            grains.keeps[person] = 100;
            plan.people++;
            return true;
        }

        private boolean loadLine(Tape t) {
            t.advance();
            if (!takeTwo(t, plan.people, MOST_LOAD)) {
                return false;
            }
            grains.comeOnto(chosen, number);
            return true;
        }

        private boolean sandLine(Tape t) {
            t.advance();
            if (!takeRoom(t)) {
                return false;
            }
            int room = number;
            if (!takeTwo(t, plan.people, MOST_LOAD)) {
                return false;
            }
            grains.comeInto(room, chosen, number);
            return true;
        }

        private boolean toolLine(Tape t) {
            t.advance();
            if (!takeTwo(t, plan.rooms, 100)) {
                return false;
            }
            grains.part[chosen] = number;
            return true;
        }

        private boolean keepsLine(Tape t) {
            t.advance();
            if (!takeTwo(t, plan.people, 100)) {
                return false;
            }
            grains.keeps[chosen] = number;
            return true;
        }

        private boolean wetLine(Tape t) {
            t.advance();
            if (!takeTwo(t, plan.people, 99)) {
                return false;
            }
            grains.wet[chosen] = number;
            return true;
        }

        private boolean clogLine(Tape t) {
            t.advance();
            if (!takeNumber(t, 0, 99999)) {
                return false;
            }
            grains.clog = number;
            return true;
        }
    }

    /** Reads a text of THE LAW into a law of its own. */
    private static final class LawReader {
        private static final int MOST_DIGITS = 3;
        private static final int MOST_DEEP = 6;

        private final Law law = new Law();
        private int wrong = NONE;

        /** The first wrong byte; NONE without one. */
        private int read(Tape t) {
            law.clear();
            wrong = NONE;
            t.begin();
            if (t.kind == Tape.END) {
                return NONE;
            }
            for (int i = 0; i < Law.MOST_LINES; i++) {
                if (!line(t)) {
                    return wrong;
                }
                if (t.kind == Tape.END) {
                    return NONE;
                }
                if (!t.isSign(';')) {
                    return t.start;
                }
                t.advance();
            }
            return t.start;
        }

        private boolean refuse(int at) {
            wrong = at;
            return false;
        }

        private boolean line(Tape t) {
            int kind = t.wordAmong("bring drop pick sweep");
            if (kind == NONE) {
                return refuse(t.start);
            }
            t.advance();
            if (!t.isNumber(MOST_DIGITS)) {
                return refuse(t.start);
            }
            law.openLine(kind, t.value);
            t.advance();
            if (t.isWord("if")) {
                t.advance();
                if (!condition(t, 0)) {
                    return false;
                }
            }
            law.closeLine();
            return true;
        }

        /** ALL { or ALL }, where ALL is ATOM { and ATOM }; deep tells how many ( and not it stands within. */
        private boolean condition(Tape t, int deep) {
            boolean and = false;
            boolean or = false;
            for (int i = 0; i < MOST_BYTES; i++) {
                if (!atom(t, deep)) {
                    return false;
                }
                if (and) {
                    law.write(Law.AND);
                }
                and = t.isWord("and");
                if (!and) {
                    if (or) {
                        law.write(Law.OR);
                    }
                    or = t.isWord("or");
                    if (!or) {
                        return true;
                    }
                }
                t.advance();
            }
            return refuse(t.start);
        }

        private boolean atom(Tape t, int deep) {
            boolean not = t.isWord("not");
            if (not || t.isSign('(')) {
                if (deep >= MOST_DEEP) {
                    return refuse(t.start);
                }
                t.advance();
                return not ? negation(t, deep + 1) : bracket(t, deep + 1);
            }
            int sort = t.wordAmong(SORTS);
            if (sort != NONE) {
                law.write(Law.FIRST_FACT + Law.SORT + sort);
                t.advance();
                return true;
            }
            if (t.isWord("wet")) {
                law.write(Law.FIRST_FACT + Law.WET);
                t.advance();
                return true;
            }
            return comparison(t);
        }

        private boolean negation(Tape t, int deep) {
            if (!atom(t, deep)) {
                return false;
            }
            law.write(Law.NOT);
            return true;
        }

        private boolean bracket(Tape t, int deep) {
            if (!condition(t, deep)) {
                return false;
            }
            if (!t.isSign(')')) {
                return refuse(t.start);
            }
            t.advance();
            return true;
        }

        /** SUM < SUM or SUM > SUM: the sign between them is kept till the second SUM has ended. */
        private boolean comparison(Tape t) {
            int sign = NONE;
            boolean plus = false;
            for (int i = 0; i < MOST_BYTES; i++) {
                int fact = t.wordAmong("person room load here round part");
                if (fact == NONE && !t.isNumber(MOST_DIGITS)) {
                    return refuse(t.start);
                }
                law.write(fact == NONE ? t.value : Law.FIRST_FACT + fact);
                if (plus) {
                    law.write(Law.PLUS);
                }
                t.advance();
                plus = t.isSign('+');
                if (!plus) {
                    if (sign != NONE) {
                        law.write(sign);
                        return true;
                    }
                    if (!t.isSign('<') && !t.isSign('>')) {
                        return refuse(t.start);
                    }
                    sign = t.isSign('<') ? Law.LESS : Law.MORE;
                }
                t.advance();
            }
            return refuse(t.start);
        }
    }

    /** How all was ahead of the latest acts: a ring, whose rows are made when they are first needed. */
    private static final class Past {
        private static final int MOST_ACTS = 12;

        private final Grains[] grains = new Grains[MOST_ACTS];
        private final Heels[] heels = new Heels[MOST_ACTS];
        private int size = 0;
        private int next = 0;

        private void forget() {
            size = 0;
        }

        private void remember(Grains g, Heels h) {
            if (grains[next] == null) {
                grains[next] = new Grains();
            }
            if (heels[next] == null) {
                heels[next] = new Heels();
            }
            grains[next].copyFrom(g);
            heels[next].copyFrom(h);
            next = next + 1 < MOST_ACTS ? next + 1 : 0;
            size = Math.min(size + 1, MOST_ACTS);
        }

        private boolean recall(Grains g, Heels h) {
            int latest = next > 0 ? next - 1 : MOST_ACTS - 1;
            if (size == 0 || grains[latest] == null || heels[latest] == null) {
                return false;
            }
            g.copyFrom(grains[latest]);
            h.copyFrom(heels[latest]);
            next = latest;
            size--;
            return true;
        }
    }

    /** THE IMAGE. */
    private static final class Image {
        private final Plan plan = new Plan();
        private final Law law = new Law();
        private final Grains grains = new Grains();
        private final Heels heels = new Heels();
        private boolean taken = false;

        private void take(Home home, Grains g, Heels h) {
            plan.copyFrom(home.plan);
            law.copyFrom(home.law);
            grains.copyFrom(g);
            heels.copyFrom(h);
            taken = true;
        }

        private void give(Home home, Grains g, Heels h) {
            home.plan.copyFrom(plan);
            home.law.copyFrom(law);
            g.copyFrom(grains);
            h.copyFrom(heels);
        }
    }
}
