/** The sentences on ROUNDS and ACTS that name a bound, each at the bound and on both sides of it (promises 7 to 18). */
public final class RoundEdgesTest extends Due {
    public static void main(String[] args) {
        whatOfARoom();
        whatOfAPerson();
        whatOfARule();
        othersGrains();
        numbersOfRounds();
        nextRoom();
        brings();
        tools();
        draws();
        seeds();
        drops();
        whoseFalls();
        wet();
        picks();
        lawByThen();
        byNumbers();
        drains();
        clogging();
        sweeping();
        beating();
        toolsPut();
        keepsTold();
        soaking();
        actsThatChangeNothing();
        lastOfAll();
        lastPicks();
        books();
        finish();
    }

    private static void whatOfARoom() {
        sentence(7, "NoSuchElementException: another what");
        Make make = () -> houseOf("room drain 42;room bed 7;door 0 1;person 0;person 1;person 0;sand 0 1 9;sand 0 2 8;tool 0 33");
        SandHouse h = make.one();
        int[] due = {4, 42, 33, 17, 5, 2, 50};
        for (int what = 0; what <= 6; what++) {
            due("room(0, " + what + ")", h.room(0, what), due[what]);
        }
        for (int what : new int[] {-1, 7, LEAST, GREATEST}) {
            SandHouse asked = make.one();
            refusedWhole("room(0, " + what + ")", ELEMENT, asked, () -> asked.room(0, what));
        }
        sentence(7, "Of several exceptions the one told first is thrown");
        refused("room(2, 7)", INDEX, () -> h.room(2, 7));
        refused("room(-1, -1)", INDEX, () -> h.room(-1, -1));
        due("the last ROOM", h.room(1, 1), 7);
    }

    private static void whatOfAPerson() {
        sentence(9, "NoSuchElementException: another what");
        SandHouse h = houseOf("room out 1;room stone 1;room bed 1;door 0 1;door 1 2;person 1 2 1 1;load 0 8;keeps 0 9;wet 0 7", "");
        h.rounds(3);
        int[] due = {1, 8, 9, 4, 4, 3, 6};
        for (int what = 0; what <= 6; what++) {
            due("person(0, " + what + ")", h.person(0, what), due[what]);
        }
        for (int what : new int[] {-1, 7, LEAST, GREATEST}) {
            refusedWhole("person(0, " + what + ")", ELEMENT, h, () -> h.person(0, what));
        }
        sentence(9, "Of several exceptions the one told first is thrown");
        refused("person(1, 7)", INDEX, () -> h.person(1, 7));
        refused("person(-1, -1)", INDEX, () -> h.person(-1, -1));
    }

    private static void whatOfARule() {
        sentence(12, "NoSuchElementException: another what");
        Make make = () -> houseOf("room out 1;room bed 1;person 0;person 1", "bring 1;drop 2;pick 3;sweep 4");
        SandHouse h = make.one();
        for (int what = 0; what <= 2; what++) {
            due("rule(1, 1, " + what + ")", h.rule(1, 1, what), what + 1);
        }
        for (int what : new int[] {-1, 3, LEAST, GREATEST}) {
            SandHouse asked = make.one();
            refusedWhole("rule(1, 1, " + what + ")", ELEMENT, asked, () -> asked.rule(1, 1, what));
        }
        sentence(12, "Of several exceptions the one told first is thrown");
        for (int none : new int[] {-1, 2}) {
            refused("rule(" + none + ", 1, 3)", INDEX, () -> h.rule(none, 1, 3));
            refused("rule(1, " + none + ", 3)", INDEX, () -> h.rule(1, none, 3));
        }
    }

    private static void othersGrains() {
        sentence(10, "Grains of another one's (or one's own) in a LOAD");
        SandHouse h = houseOf("room stone 1;room bed 1;person 0;person 1;load 0 6;sand 0 1 40", "pick 25 if room < 1");
        h.rounds(1);
        int[][] due = {{6, 10}, {0, 0}};
        for (int person = 0; person < 2; person++) {
            for (int whose = 0; whose < 2; whose++) {
                due("load(" + person + ", " + whose + ")", h.load(person, whose), due[person][whose]);
            }
        }
        sentence(8, "Grains of a PERSON's in a ROOM");
        due("sand(0, 1)", h.sand(0, 1), 30);
        due("sand(0, 0)", h.sand(0, 0), 0);
        String before = state(h);
        for (int none : new int[] {-1, 2, LEAST, GREATEST}) {
            promise = 8;
            refused("sand(" + none + ", 0)", INDEX, () -> h.sand(none, 0));
            refused("sand(0, " + none + ")", INDEX, () -> h.sand(0, none));
            promise = 10;
            refused("load(" + none + ", 0)", INDEX, () -> h.load(none, 0));
            refused("load(0, " + none + ")", INDEX, () -> h.load(0, none));
            promise = 11;
            refused("habit(" + none + ", 0)", INDEX, () -> h.habit(none, 0));
        }
        same("all behind refusals", before, state(h));
    }

    private static void numbersOfRounds() {
        sentence(13, "So many ROUNDS more (1 to 100). IllegalArgumentException: they are none");
        range("rounds", 1, 100, ILLEGAL, () -> houseOf(WALK, HALVES), (h, n) -> h.rounds(n));
        SandHouse once = houseOf("room out 1;room bed 1;door 0 1;person 0 1;person 1;load 0 300;tool 1 10;keeps 0 50", "bring 7 if out;drop 9;pick 3");
        SandHouse each = houseOf("room out 1;room bed 1;door 0 1;person 0 1;person 1;load 0 300;tool 1 10;keeps 0 50", "bring 7 if out;drop 9;pick 3");
        int fell = 0;
        for (int i = 0; i < 12; i++) {
            fell += each.rounds(1);
        }
        due("grains that fell in all", once.rounds(12), fell);
        each.image();
        each.back();
        once.image();
        once.back();
        same("twelve at once and one by one", state(each), state(once));
        SandHouse h = houseOf(WALK, HALVES);
        h.rounds(100);
        due("ROUND behind 100", h.count(5), 100);
        h.rounds(1);
        due("ROUND behind 101", h.count(5), 101);
        due("nothing falls: 0", h.rounds(1), 0);
    }

    private static void nextRoom() {
        sentence(13, "(a) is in the next ROOM of the HABIT (behind the last the first)");
        SandHouse h = houseOf("room out 1;room stone 1;room bed 1;door 0 1;door 1 2;person 0 1 2 1;person 2;person 1 1 2;person 0 0 0 0 0 0 0 0 0 0 0 1");
        int[][] rooms = {{0, 1, 2, 1}, {2}, {1, 1, 2}, {0, 0, 0, 0, 0, 0, 0, 0, 0, 0, 0, 1}};
        for (int round = 0; round <= 13; round++) {
            for (int person = 0; person < 4; person++) {
                int length = rooms[person].length;
                due("place of " + person + " at " + round, h.person(person, 5), round % length);
                due("ROOM of " + person + " at " + round, h.person(person, 0), rooms[person][round % length]);
            }
            int there = (round % 4 == 2 ? 1 : 0) | 2 | (round % 3 == 2 ? 4 : 0);
            due("who is in the bed at " + round, h.room(2, 4), there);
            h.rounds(1);
        }
    }

    private static void brings() {
        sentence(13, "(b) BRINGS grains more of one's own in LOAD (9999 at most: what would be above does not come)");
        int[][] loads = {{9797, 9997}, {9798, 9998}, {9799, 9999}, {9800, 9999}, {9998, 9999}, {9999, 9999}, {0, 200}};
        for (int[] l : loads) {
            SandHouse h = houseOf("room out 1;person 0;load 0 " + l[0], "bring 200");
            h.rounds(1);
            due("LOAD of " + l[0], h.load(0, 0), l[1]);
            due("told and brought of " + l[0], h.count(9), l[1]);
        }
        for (int own : new int[] {4997, 4998, 4999, 5000}) {
            SandHouse h = houseOf("room stone 1;room stone 1;person 0;person 1;load 0 " + own + ";sand 0 1 9998",
                "pick 50 if room < 1 and round < 1;bring 2 if room < 1 and round > 0");
            h.rounds(1);
            due("others' grains", h.load(0, 1), 4999);
            h.rounds(1);
            due("own grains, with others' in the LOAD, of " + own, h.load(0, 0), Math.min(own + 2, 5000));
            due("told and brought of " + own, h.count(9), 9998 + Math.min(own + 2, 5000));
        }
    }

    private static SandHouse withTool(int part, int grains) {
        return houseOf("room stone 1;person 0;load 0 " + grains + ";tool 0 " + part, "");
    }

    private static void tools() {
        sentence(13, "(c) of each one's grains in LOAD its PART in a hundred, rounded down, is GONE");
        int[][] cases = {{1, 99, 0}, {1, 100, 1}, {1, 199, 1}, {50, 1, 0}, {50, 2, 1}, {50, 3, 1}, {99, 1, 0}, {99, 100, 99}, {99, 101, 99},
            {100, 0, 0}, {100, 1, 1}, {100, 9999, 9999}, {33, 9999, 3299}, {7, 9999, 699}};
        for (int[] c : cases) {
            SandHouse h = withTool(c[0], c[1]);
            h.rounds(1);
            due("GONE of " + c[1] + " by " + c[0], h.count(8), c[2]);
            due("LOAD of " + c[1] + " by " + c[0], h.person(0, 1), c[1] - c[2]);
        }
        // three of each: by themselves one of each is gone, together it would be three
        SandHouse each = houseOf("room stone 1;room stone 1;door 0 1;person 0 0 1;person 0 0 0;load 0 3;sand 0 1 3;tool 1 50",
            "pick 100 if round < 1 and person < 1");
        each.rounds(2);
        due("GONE of two by themselves", each.count(8), 2);
        due("own of two", each.load(0, 0), 2);
        due("the other's of two", each.load(0, 1), 2);
    }

    private static void kept(int seed, int keeps, boolean want) {
        SandHouse h = withTool(50, 100);
        h.keep(0, keeps);
        h.seed(seed);
        h.rounds(1);
        due("GONE with SEED " + seed + " and KEEPS " + keeps, h.count(8), want ? 50 : 0);
        due("SEED behind " + seed, h.seed(0), 1103515245 * seed + 12345);
    }

    private static void draws() {
        sentence(13, "(c) DRAW modulo 100 below KEEPS");
        kept(seedWith(0), 0, false);
        kept(seedWith(0), 1, true);
        kept(seedWith(0), 100, true);
        kept(seedWith(99), 0, false);
        kept(seedWith(99), 99, false);
        kept(seedWith(99), 100, true);
        for (int draw = 1; draw < 99; draw += 7) {
            kept(seedWith(draw), draw, false);
            kept(seedWith(draw), draw + 1, true);
        }
        sentence(13, "SEED as an int that goes round; bits 16 to 30");
        for (int seed : new int[] {0, 1, 2, -1, -2, LEAST, GREATEST, 65535, 65536, -65536, 1103515245, 12345, 99991, -77777, 3000000, 19}) {
            int draw = drawOf(seed) % 100;
            kept(seed, draw, false);
            kept(seed, draw + 1, true);
        }
        sentence(13, "(c) If a TOOL is there");
        SandHouse h = houseOf("room stone 1;room stone 1;door 0 1;person 0 1;person 1 0;tool 1 1;keeps 0 0", "");
        h.rounds(1);
        due("one draw: the other came to no TOOL", h.seed(1), 1103527590);
        h.tool(0, 1);
        h.rounds(1);
        due("two draws", h.seed(1), 1103515245 * 1103527590 + 12345);
        h.tool(0, 0);
        h.tool(1, 0);
        h.rounds(9);
        due("no draw", h.seed(1), 1);
    }

    private static void seeds() {
        sentence(45, "SEED: what it was (SEED 1 at first)");
        SandHouse h = new SandHouse();
        int before = 1;
        for (int seed : new int[] {LEAST, GREATEST, 0, -1, 1}) {
            due("seed(" + seed + ")", h.seed(seed), before);
            before = seed;
        }
        due("it is no act", h.count(14), 0);
    }

    private static void drops() {
        sentence(13, "(d) of each one's grains in LOAD DROPS in a hundred, rounded down, are in the ROOM");
        int[][] cases = {{0, 9999, 0}, {1, 99, 0}, {1, 100, 1}, {1, 101, 1}, {50, 1, 0}, {50, 2, 1}, {99, 1, 0}, {100, 0, 0}, {100, 1, 1},
            {100, 9999, 9999}, {67, 9999, 6699}};
        for (int[] c : cases) {
            SandHouse h = houseOf("room stone 1;person 0;load 0 " + c[1], "drop " + c[0]);
            due("fell of " + c[1] + " by " + c[0], h.rounds(1), c[2]);
            due("in the ROOM of " + c[1] + " by " + c[0], h.sand(0, 0), c[2]);
            due("rows of " + c[1] + " by " + c[0], h.count(13), c[2] > 0 ? 1 : 0);
        }
        SandHouse each = houseOf("room stone 1;person 0;person 0;load 0 3;sand 0 1 3", "pick 100 if round + person < 1;drop 50 if round > 0");
        each.rounds(1);
        due("fell of two by themselves", each.rounds(1), 2);
        due("own in the ROOM", each.sand(0, 0), 1);
        due("the other's in the ROOM", each.sand(0, 1), 1);
    }

    private static void whoseFalls() {
        sentence(13, "(d) Of each one's grains in LOAD: they are of the same one in the ROOM");
        SandHouse h = houseOf("room stone 1;room stone 1;person 0;person 1;load 0 30;load 1 6;sand 0 1 50",
            "pick 100 if room + round < 1;drop 10 if room < 1 and round > 0");
        h.rounds(1);
        due("fell", h.rounds(1), 8);
        due("own in LOAD", h.load(0, 0), 27);
        due("the other's in LOAD", h.load(0, 1), 45);
        due("own in the ROOM", h.sand(0, 0), 3);
        due("the other's in the ROOM", h.sand(0, 1), 5);
        due("the other one's LOAD", h.load(1, 1), 6);
    }

    private static void wet() {
        sentence(13, "(d) If not WET; (f) WET is 1 less (0 at least)");
        int[][] cases = {{0, 50, 0}, {1, 0, 0}, {2, 0, 1}, {99, 0, 98}};
        for (int[] c : cases) {
            SandHouse h = houseOf("room stone 1;person 0;load 0 100;wet 0 " + c[0], "drop 50");
            due("fell of WET " + c[0], h.rounds(1), c[1]);
            due("WET behind " + c[0], h.person(0, 3), c[2]);
        }
        SandHouse h = houseOf("room stone 1;person 0;load 0 100;wet 0 99", "drop 50");
        due("fell in 99", h.rounds(99), 0);
        due("WET behind 99", h.person(0, 3), 0);
        due("fell in the 100th", h.rounds(1), 50);
        due("WET behind 100", h.person(0, 3), 0);
        // wet sand sticks, but is brought, taken by a TOOL and picked up as ever
        SandHouse sticks = houseOf("room out 1;person 0;load 0 100;sand 0 0 50;tool 0 50;wet 0 1", "bring 20;drop 50;pick 10");
        due("fell", sticks.rounds(1), 0);
        due("GONE", sticks.count(8), 60);
        due("LOAD", sticks.person(0, 1), 65);
        // as long as (b) to (e) last one is as WET as ahead of them
        SandHouse last = houseOf("room out 1;person 0;wet 0 1;sand 0 0 10", "bring 20 if wet;pick 50 if wet");
        last.rounds(1);
        due("brought and picked up", last.person(0, 1), 25);
        last.rounds(1);
        due("not any more", last.person(0, 1), 25);
    }

    private static void picks() {
        sentence(13, "(e) PICKS in a hundred, rounded down, are in LOAD");
        int[][] cases = {{0, 9999, 0}, {1, 99, 0}, {1, 100, 1}, {5, 19, 0}, {5, 20, 1}, {50, 1, 0}, {100, 1, 1}, {100, 9999, 9999}, {99, 9999, 9899}};
        for (int[] c : cases) {
            SandHouse h = houseOf("room stone 1;person 0;sand 0 0 " + c[1], "pick " + c[0]);
            h.rounds(1);
            due("picked up of " + c[1] + " by " + c[0], h.load(0, 0), c[2]);
            due("left of " + c[1] + " by " + c[0], h.sand(0, 0), c[1] - c[2]);
        }
        sentence(13, "(e) if LOAD is 9999 at most by all these; else none");
        int[][] loads = {{9988, 9998, 90}, {9989, 9999, 90}, {9990, 9990, 100}, {9991, 9991, 100}, {9999, 9999, 100}};
        for (int[] l : loads) {
            SandHouse h = houseOf("room stone 1;room stone 1;person 0;person 1;sand 0 0 50;sand 0 1 50;load 0 " + l[0], "pick 10 if room < 1");
            h.rounds(1);
            due("LOAD of " + l[0], h.person(0, 1), l[1]);
            due("left by " + l[0], h.room(0, 3), l[2]);
        }
        for (int[] l : loads) {
            SandHouse h = houseOf("room stone 1;room stone 1;room bed 1;person 1;person 2;sand 1 0 50;sand 1 1 50;sand 2 1 9;load 0 " + l[0], "pick 10 if room < 2");
            h.rounds(1);
            due("LOAD in another ROOM of " + l[0], h.person(0, 1), l[1]);
            due("left in another ROOM by " + l[0], h.room(1, 3), l[2]);
        }
        sentence(13, "(e) those of (d), too");
        SandHouse too = houseOf("room stone 1;person 0;load 0 9999;sand 0 0 1", "drop 1;pick 100");
        too.rounds(1);
        due("99 that fell and one more are too many", too.person(0, 1), 9900);
        due("so they lie", too.sand(0, 0), 100);
        SandHouse fits = houseOf("room stone 1;person 0;load 0 9998;sand 0 0 1", "drop 1;pick 100");
        fits.rounds(1);
        due("98 fall, 99 are picked up", fits.person(0, 1), 9999);
        due("none lies", fits.sand(0, 0), 0);
    }

    private static void lawByThen() {
        sentence(13, "Each of (b) to (e) by THE LAW as all is by then");
        // ROUND is 1 more only when all have gone
        SandHouse round = houseOf("room out 1;person 0;person 0", "bring 10 if round < 1;drop 50 if round < 1;pick 20 if round < 1");
        round.rounds(2);
        due("brought at ROUND 0 alone", round.count(9), 20);
        due("rows at ROUND 0 alone", round.count(13), 2);
        // (b) by the new ROOM
        SandHouse room = houseOf("room out 1;room bed 1;door 0 1;person 0 1", "bring 10 if out");
        room.rounds(1);
        due("brought in the bed", room.count(9), 0);
        room.rounds(1);
        due("brought out", room.count(9), 10);
        // (d) by LOAD behind the TOOL, (e) by LOAD and ROOM behind (d)
        SandHouse load = houseOf("room stone 1;person 0;load 0 100;tool 0 50", "drop 10 if load < 51;drop 5 if load > 50;pick 100 if load < 46 and here > 4");
        load.rounds(1);
        due("fell by the LOAD behind the TOOL", load.log(0, 3), 5);
        due("picked up by the ROOM behind the fall", load.person(0, 1), 50);
        // (b) by here as it was ahead of (d)
        SandHouse here = houseOf("room stone 1;person 0", "bring 10 if here < 1;drop 100");
        here.rounds(2);
        due("brought once", here.count(9), 10);
    }

    private static void byNumbers() {
        sentence(13, "each PERSON, by numbers");
        SandHouse h = houseOf("room stone 1;person 0;person 0;person 0;load 1 100", "drop 50;pick 100 if person < 1;pick 10 if person > 1");
        h.rounds(1);
        due("0 came ahead of the fall", h.load(0, 1), 0);
        due("2 came behind it", h.load(2, 1), 5);
        h.rounds(1);
        due("0 comes to what lies", h.load(0, 1), 45);
    }

    private static void drains() {
        sentence(13, "Then each drain: of each one's grains there a tenth, rounded down, is GONE, and DRAINED");
        int[][] cases = {{0, 0}, {9, 0}, {10, 1}, {19, 1}, {20, 2}, {9999, 999}};
        for (int[] c : cases) {
            SandHouse h = houseOf("room drain 1;room stone 1;person 1;sand 0 0 " + c[0] + ";sand 1 0 500", "");
            h.rounds(1);
            due("DRAINED of " + c[0], h.count(10), c[1]);
            due("GONE of " + c[0], h.count(8), c[1]);
            due("left of " + c[0], h.room(0, 3), c[0] - c[1]);
            due("left on stone", h.room(1, 3), 500);
        }
        SandHouse each = houseOf("room drain 1;person 0;person 0;sand 0 0 9;sand 0 1 19", "");
        each.rounds(1);
        due("each one's by themselves", each.count(10), 1);
        SandHouse then = houseOf("room drain 1;person 0;load 0 100", "drop 50");
        then.rounds(1);
        due("what fell in this ROUND drains", then.count(10), 5);
        SandHouse nobody = houseOf("room drain 1;room stone 1;person 1;sand 0 0 100", "");
        nobody.rounds(2);
        due("nobody has to be there", nobody.count(10), 19);
    }

    private static void clogging() {
        sentence(13, "as long as DRAINED is below CLOG; CLOG: from as many on drains are clogged");
        int[][] clogs = {{0, 0, 0}, {1, 10, 10}, {9, 10, 10}, {10, 10, 10}, {11, 30, 30}, {29, 30, 30}, {30, 30, 30}, {31, 30, 39}, {99999, 30, 57}};
        for (int[] c : clogs) {
            SandHouse h = houseOf("room drain 1;room stone 1;room drain 1;person 1;sand 0 0 100;sand 2 0 200;clog " + c[0], "");
            h.rounds(1);
            due("DRAINED with CLOG " + c[0], h.count(10), c[1]);
            due("GONE with CLOG " + c[0], h.count(8), c[1]);
            h.rounds(1);
            due("DRAINED with CLOG " + c[0] + " once more", h.count(10), c[2]);
            due("clogged with CLOG " + c[0], h.clogs() == 0, c[2] >= c[0]);
        }
        // told anew, drains are free again
        SandHouse h = houseOf("room drain 1;person 0;sand 0 0 100;clog 10", "");
        h.rounds(5);
        due("clogged", h.count(10), 10);
        tell(h, "clog 11");
        h.rounds(5);
        due("free for one ROUND", h.count(10), 19);
    }

    private static void sweeping() {
        sentence(14, "of each one's grains there SWEEPS in a hundred, rounded down, are GONE; its MINUTES are spent");
        int[][] cases = {{0, 9999, 0}, {1, 99, 0}, {1, 100, 1}, {50, 1, 0}, {50, 3, 1}, {99, 1, 0}, {100, 1, 1}, {100, 9999, 9999}, {100, 0, 0}};
        for (int[] c : cases) {
            SandHouse h = houseOf("room out 99;room bed 1;person 0;person 0;sand 0 0 " + c[1] + ";sand 0 1 1;sand 1 0 7", "sweep " + c[0]);
            int other = c[0] == 100 ? 1 : 0;
            due("swept of " + c[1] + " by " + c[0], h.sweep(0), c[2] + other);
            due("GONE of " + c[1] + " by " + c[0], h.count(8), c[2] + other);
            due("left of " + c[1] + " by " + c[0], h.sand(0, 0), c[1] - c[2]);
            due("left of the other's", h.sand(0, 1), 1 - other);
            due("left in the other ROOM", h.room(1, 3), 7);
            due("MINUTES spent", h.count(12), 99);
            h.sweep(1);
            due("MINUTES spent in both", h.count(12), 100);
        }
        for (int none : new int[] {-1, 2, LEAST, GREATEST}) {
            SandHouse h = houseOf("room out 99;room bed 1;person 0;sand 0 0 9");
            refusedWhole("sweep(" + none + ")", INDEX, h, () -> h.sweep(none));
        }
    }

    private static void beating() {
        sentence(15, "of each one's grains in LOAD the half, rounded down, is GONE");
        int[][] cases = {{0, 0}, {1, 0}, {2, 1}, {3, 1}, {9999, 4999}};
        for (int[] c : cases) {
            SandHouse h = houseOf("room out 1;person 0;person 0;load 1 " + c[0] + ";load 0 5");
            due("beaten out of " + c[0], h.beat(1), c[1]);
            due("GONE of " + c[0], h.count(8), c[1]);
            due("left of " + c[0], h.person(1, 1), c[0] - c[1]);
            due("left of the other", h.person(0, 1), 5);
        }
        SandHouse each = houseOf("room stone 1;room bed 1;person 0;person 1;load 0 3;sand 0 1 3", "pick 100 if room < 1");
        each.rounds(1);
        due("each one's by themselves", each.beat(0), 2);
        for (int none : new int[] {-1, 2, LEAST, GREATEST}) {
            SandHouse h = houseOf("room out 1;person 0;person 0;load 0 5");
            refusedWhole("beat(" + none + ")", INDEX, h, () -> h.beat(none));
        }
    }

    private static void toolsPut() {
        sentence(16, "A TOOL is put (PART 0: taken away): PART that was there (0). IllegalArgumentException: PART is none");
        range("tool", 0, 100, ILLEGAL, () -> houseOf("room out 1;room bed 1;tool 1 5"), (h, n) -> h.tool(1, n));
        SandHouse h = houseOf("room out 1;room bed 1");
        int before = 0;
        for (int part : new int[] {1, 100, 0, 0, 50, 50}) {
            due("tool(1, " + part + ")", h.tool(1, part), before);
            due("PART behind " + part, h.room(1, 2), part);
            due("PART of the other", h.room(0, 2), 0);
            before = part;
        }
        for (int none : new int[] {-1, 2, LEAST, GREATEST}) {
            refusedWhole("tool(" + none + ", 101)", INDEX, h, () -> h.tool(none, 101));
            refused("tool(" + none + ", 1)", INDEX, () -> h.tool(none, 1));
        }
    }

    private static void keepsTold() {
        sentence(17, "KEEPS is told: what it was. IllegalArgumentException: it is none");
        range("keep", 0, 100, ILLEGAL, () -> houseOf("room out 1;person 0;person 0;keeps 1 5"), (h, n) -> h.keep(1, n));
        SandHouse h = houseOf("room out 1;person 0;person 0");
        int before = 100;
        for (int keeps : new int[] {0, 100, 1, 99, 99}) {
            due("keep(1, " + keeps + ")", h.keep(1, keeps), before);
            due("KEEPS behind " + keeps, h.person(1, 2), keeps);
            due("KEEPS of the other", h.person(0, 2), 100);
            before = keeps;
        }
        for (int none : new int[] {-1, 2, LEAST, GREATEST}) {
            refusedWhole("keep(" + none + ", 101)", INDEX, h, () -> h.keep(none, 101));
        }
    }

    private static void soaking() {
        sentence(18, "One gets WET for so many ROUNDS (0 to 99): what WET was. IllegalArgumentException: they are none");
        range("soak", 0, 99, ILLEGAL, () -> houseOf("room out 1;person 0;person 0;wet 1 5"), (h, n) -> h.soak(1, n));
        SandHouse h = houseOf("room out 1;person 0;person 0");
        int before = 0;
        for (int wet : new int[] {1, 99, 0, 0, 98}) {
            due("soak(1, " + wet + ")", h.soak(1, wet), before);
            due("WET behind " + wet, h.person(1, 3), wet);
            due("WET of the other", h.person(0, 3), 0);
            before = wet;
        }
        for (int none : new int[] {-1, 2, LEAST, GREATEST}) {
            refusedWhole("soak(" + none + ", 100)", INDEX, h, () -> h.soak(none, 100));
        }
    }

    private static void actsThatChangeNothing() {
        sentence(46, "ACTS (each also if it changes nothing)");
        SandHouse h = houseOf("room out 1;person 0", "");
        due("sweep", h.sweep(0), 0);
        due("one act", h.count(14), 1);
        due("beat", h.beat(0), 0);
        due("two acts", h.count(14), 2);
        due("tool", h.tool(0, 0), 0);
        due("three acts", h.count(14), 3);
        due("keep", h.keep(0, 100), 100);
        due("four acts", h.count(14), 4);
        due("soak", h.soak(0, 0), 0);
        due("five acts", h.count(14), 5);
        due("rounds", h.rounds(1), 0);
        due("six acts", h.count(14), 6);
        for (int i = 5; i >= 0; i--) {
            due("undo", h.undo(), true);
            due("acts left", h.count(14), i);
        }
        due("undo of none", h.undo(), false);
    }

    private static void lastOfAll() {
        sentence(13, "each PERSON, each one's grains: the eighth, in the twelfth ROOM");
        SandHouse falls = full("stone", "load 7 1000;sand 11 7 50", "drop 10");
        due("fell", falls.rounds(1), 100);
        due("in LOAD", falls.load(7, 7), 900);
        due("in the ROOM", falls.sand(11, 7), 150);
        due("who, by THE LOG", falls.log(0, 1), 7);
        due("the ROOM, by THE LOG", falls.log(0, 2), 11);
        SandHouse brought = full("stone", "", "bring 7 if room > 10");
        brought.rounds(1);
        due("brought", brought.load(7, 7), 7);
        due("brought by all", brought.count(7), 7);
        SandHouse taken = full("stone", "load 7 1000;tool 11 30", "");
        taken.rounds(1);
        due("left by a TOOL", taken.load(7, 7), 700);
        due("GONE by a TOOL", taken.count(8), 300);
        SandHouse drained = full("drain", "sand 11 7 55", "");
        drained.rounds(1);
        due("left by a drain", drained.sand(11, 7), 50);
        due("DRAINED", drained.count(10), 5);
        sentence(14, "each one's grains: the eighth's, in the twelfth ROOM");
        SandHouse swept = full("bed", "sand 11 7 50;sand 11 6 9;sand 10 7 9", "sweep 40");
        due("swept", swept.sweep(11), 23);
        due("left by sweeping", swept.sand(11, 7), 30);
        due("left by sweeping, of another one", swept.sand(11, 6), 6);
        due("left in another ROOM", swept.sand(10, 7), 9);
        sentence(15, "each one's grains in LOAD: the eighth's");
        SandHouse beaten = full("bed", "load 7 51;load 6 9", "");
        due("beaten out", beaten.beat(7), 25);
        for (int whose = 0; whose < 8; whose++) {
            due("left in LOAD of " + whose, beaten.load(7, whose), whose == 7 ? 26 : 0);
        }
        due("left in another LOAD", beaten.load(6, 6), 9);
    }

    private static void lastPicks() {
        sentence(13, "(e) if LOAD is 9999 at most by all these: the eighth's, too, in the twelfth ROOM");
        for (int whose = 0; whose < 8; whose++) {
            for (int load = 9994; load <= 9996; load++) {
                SandHouse h = full("bed", "load 7 " + load + ";sand 11 " + whose + " 40", "pick 10");
                h.rounds(1);
                int picked = load < 9996 ? 4 : 0;
                due("LOAD of " + load + " and 4 of " + whose, h.person(7, 1), load + picked);
                due("left by " + load + " of " + whose, h.sand(11, whose), 40 - picked);
            }
        }
    }

    private static void books() {
        sentence(49, "BOOKS: grains told and brought are those in ROOMS, LOADS, GONE");
        SandHouse h = houseOf("room out 3;room drain 2;room bed 4;door 0 1;door 1 2;person 0 1 2 1;person 1 0;person 2;load 0 9990;load 0 99;sand 1 2 77;tool 2 31");
        for (int i = 0; i < 24; i++) {
            h.rounds(1 + i % 3);
            h.sweep(i % 3);
            h.beat(i % 3);
            h.tool(i % 3, i);
            due("books behind " + i, h.count(6) + h.count(7) + h.count(8), h.count(9));
            int inRooms = h.room(0, 3) + h.room(1, 3) + h.room(2, 3);
            due("in ROOMS behind " + i, h.count(6), inRooms);
            due("in LOADS behind " + i, h.count(7), h.person(0, 1) + h.person(1, 1) + h.person(2, 1));
            due("DRAINED is GONE, too", h.count(10) <= h.count(8), true);
        }
        due("MINUTES", h.count(12), 8 * (3 + 2 + 4));
    }
}
