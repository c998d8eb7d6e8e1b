/** The sentences on what would be that name a bound, each at the bound and on both sides of it (promises 19 to 33). */
public final class TrialEdgesTest extends Due {
    /** Two who let fall half of what they carry, and have TOOLS on their way. */
    private static final String PAIR = "room out 1;room stone 1;room bed 1;door 0 1;door 1 2;person 0 1 2 1;person 1 2;load 0 200;load 1 80;keeps 1 50";

    public static void main(String[] args) {
        trials();
        nothingStays();
        fromNow();
        fromNowOfAll();
        worth();
        stand();
        two();
        keepers();
        chores();
        often();
        when();
        clogs();
        fades();
        later();
        towel();
        towelled();
        span();
        peak();
        finish();
    }

    private static SandHouse pair() {
        return houseOf(PAIR, HALVES);
    }

    private static void trials() {
        sentence(19, "A TRIAL of N ROUNDS (0 to 100). IllegalArgumentException: N is none");
        range("trial", 0, 100, ILLEGAL, TrialEdgesTest::pair, (h, n) -> h.trial(n, 0));
        sentence(19, "NoSuchElementException: another what");
        range("what of a trial", 0, 3, ELEMENT, TrialEdgesTest::pair, (h, n) -> h.trial(100, n));
        sentence(19, "Of several exceptions the one told first is thrown");
        SandHouse h = pair();
        refused("trial(-1, 4)", ILLEGAL, () -> h.trial(-1, 4));
        refused("trial(101, -1)", ILLEGAL, () -> h.trial(101, -1));
        sentence(19, "all goes on from now: grains then in beds, in all ROOMS but those out, in LOADS, GONE");
        SandHouse t = houseOf("room out 1;room bed 1;room stone 1;room bed 1;room drain 1;room carpet 1;person 0;load 0 6;sand 0 0 1;sand 1 0 20;"
            + "sand 2 0 300;sand 3 0 4000", "sweep 100");
        tell(t, "sand 4 0 5;sand 5 0 9999;room stone 1;sand 6 0 7");
        t.sweep(6);
        int[] now = {4020, 4020 + 300 + 5 + 9999, 6, 7};
        for (int what = 0; what < 4; what++) {
            due("trial(0, " + what + ")", t.trial(0, what), now[what]);
            due("trial(100, " + what + ")", t.trial(100, what), now[what]);
        }
        sentence(19, "draws, too");
        SandHouse draws = houseOf("room bed 1;person 0;load 0 1000;tool 0 50;keeps 0 39", "");
        // draws modulo 100 from SEED 1 on: 38 58 13 15 51
        int[] gone = {0, 500, 500, 750, 875, 875};
        for (int n = 0; n < 6; n++) {
            due("GONE behind " + n, draws.trial(n, 3), gone[n]);
        }
        due("SEED as it was", draws.seed(1), 1);
        SandHouse goesOn = pair();
        goesOn.tool(1, 10);
        int[] tried = new int[4];
        for (int what = 0; what < 4; what++) {
            tried[what] = goesOn.trial(100, what);
        }
        goesOn.rounds(100);
        due("beds as tried", goesOn.room(2, 3), tried[0]);
        due("inside as tried", goesOn.room(1, 3) + goesOn.room(2, 3), tried[1]);
        due("LOADS as tried", goesOn.count(7), tried[2]);
        due("GONE as tried", goesOn.count(8), tried[3]);
    }

    private static void nothingStays() {
        sentence(19, "nothing stays");
        SandHouse h = pair();
        h.tool(1, 30);
        h.rounds(3);
        String before = state(h);
        h.trial(100, 3);
        h.worth(0, 100, 100);
        h.worth(1, 1, 100);
        h.stand(100, 24, true);
        h.two(100, 24);
        h.keepers(0, 24);
        h.chores(0, true);
        h.often(0, 24);
        h.when(99999);
        h.clogs();
        h.fades(0);
        h.later(1, 24);
        h.towel(0, 1, 24);
        h.towelled(1, 24);
        h.span(24, true);
        h.peak(100);
        same("all behind what would be", before, state(h));
        due("acts", h.count(14), 2);
        due("rows", h.log(h.count(13) - 1, 0), 0);
    }

    private static void fromNowOfAll() {
        sentence(19, "all goes on from now: the eighth PERSON's, in the twelfth ROOM, too");
        SandHouse tool = full("bed", "load 7 100;tool 11 50", "");
        due("GONE by a TOOL", tool.trial(1, 3), 50);
        tool.keep(7, 0);
        due("GONE without keeping", tool.trial(1, 3), 0);
        SandHouse wet = full("bed", "load 7 100;sand 11 7 8", "drop 10");
        due("in beds", wet.trial(1, 0), 18);
        wet.soak(7, 1);
        due("in beds, WET", wet.trial(1, 0), 8);
        due("in beds, dry again", wet.trial(2, 0), 18);
    }

    private static void fromNow() {
        sentence(19, "all goes on from now, not from the latest text");
        SandHouse h = houseOf("room out 1;room stone 4;room bed 3;door 0 1;door 1 2;person 0 1 2 1;load 0 160", "drop 50;sweep 50");
        h.rounds(2);
        // 80 on stone, 40 in the bed, 40 in LOAD; then 20 on stone, 10 out, 5 on stone, 2 in the bed
        due("in beds", h.trial(4, 0), 42);
        due("in LOADS", h.trial(4, 2), 3);
        due("chores by 100", h.chores(100, true), 4);
        due("chores by 99", h.chores(99, true), 2);
        due("chores by 79", h.chores(79, true), 6);
        due("MINUTES of chores by 79", h.chores(79, false), 7);
        due("often by 20", h.often(20, 1), 1);
        due("often by 19", h.often(19, 1), -1);
        due("when", h.when(42), 4);
        due("fades", h.fades(60), 1);
        due("later", h.later(2, 4), 4);
        due("towel on stone", h.towel(0, 1, 4), 1);
        due("towel out", h.towel(0, 0, 4), 1);
        due("towel in the bed", h.towel(0, 2, 4), 0);
        due("towelled", h.towelled(0, 4), 0);
        due("peak", h.peak(4), 4);
        due("span", h.span(4, false), 42);
        due("worth", h.worth(2, 100, 4), 2);
        due("stand", h.stand(100, 4, false), 0);
        due("stand by all", h.stand(100, 4, true), 1);
        due("two", h.two(100, 4), 3);
        due("keepers", h.keepers(41, 4), -1);
        h.tool(2, 100);
        due("keepers with a TOOL", h.keepers(41, 4), 1);
    }

    private static void worth() {
        sentence(20, "WORTH by N ROUNDS (0 to 100); PART (1 to 100). IllegalArgumentException: PART or N are none");
        range("worth by PART", 1, 100, ILLEGAL, TrialEdgesTest::pair, (h, n) -> h.worth(1, n, 5));
        range("worth by N", 0, 100, ILLEGAL, TrialEdgesTest::pair, (h, n) -> h.worth(1, 50, n));
        sentence(20, "Of several exceptions the one told first is thrown");
        for (int none : new int[] {-1, 3, LEAST, GREATEST}) {
            SandHouse h = pair();
            refused("worth(" + none + ", 0, -1)", INDEX, () -> h.worth(none, 0, -1));
        }
        sentence(20, "how many grains fewer are in beds behind a TRIAL with that TOOL there (in place of any)");
        SandHouse h = houseOf("room bed 1;room bed 1;room stone 1;person 0;person 1;person 2;load 0 100;load 1 10;load 2 9999", "drop 100");
        due("PART 1", h.worth(0, 1, 1), 1);
        due("PART 100", h.worth(0, 100, 1), 100);
        due("PART 100 in the other", h.worth(1, 100, 1), 10);
        due("PART 100 on stone", h.worth(2, 100, 1), 0);
        due("no ROUND", h.worth(0, 100, 0), 0);
        h.tool(0, 60);
        due("in place of 60: 100", h.worth(0, 100, 1), 40);
        due("in place of 60: the same", h.worth(0, 60, 1), 0);
        due("in place of 60: 1", h.worth(0, 1, 1), -59);
        due("beside 60", h.worth(1, 50, 1), 5);
        h.keep(0, 0);
        due("who never keeps", h.worth(0, 100, 1), 0);
    }

    private static void stand() {
        sentence(21, "STAND of a PART by N ROUNDS (0 to 24). IllegalArgumentException likewise");
        for (boolean all : new boolean[] {false, true}) {
            range("stand by PART", 1, 100, ILLEGAL, TrialEdgesTest::pair, (h, n) -> h.stand(n, 5, all));
            range("stand by N", 0, 24, ILLEGAL, TrialEdgesTest::pair, (h, n) -> h.stand(50, n, all));
        }
        sentence(21, "the ROOM without a TOOL in which that TOOL makes the grains the fewest: of several the least; none");
        SandHouse h = houseOf("room out 1;room bed 1;room bed 1;room stone 1;room stone 1;person 0;person 1;person 2;person 3;person 4;load 0 9000;"
            + "load 1 50;load 2 50", "drop 100");
        tell(h, "load 3 60;load 4 60");
        due("of several beds the least", h.stand(100, 1, false), 1);
        due("of all the least", h.stand(100, 1, true), 3);
        due("of all that are alike the least", h.stand(100, 0, true), 0);
        h.tool(1, 1);
        due("not where a TOOL is", h.stand(100, 1, false), 2);
        h.tool(2, 1);
        due("by beds: none is better, the least without", h.stand(100, 1, false), 0);
        h.tool(3, 1);
        due("by all: the one that is left", h.stand(100, 1, true), 4);
        h.tool(4, 1);
        due("only out is left", h.stand(100, 1, true), 0);
        h.tool(0, 1);
        due("none is left by beds", h.stand(100, 1, false), -1);
        due("none is left by all", h.stand(100, 1, true), -1);
        sentence(21, "also where it makes more, or the last ROOM");
        SandHouse worse = houseOf("room stone 1;room bed 1;person 0;person 1;load 0 100;load 1 100;tool 0 1", "drop 100 if load < 100");
        due("the only one without, though worse", worse.stand(10, 1, false), 1);
        SandHouse last = houseOf(times("room bed 1", 12, ";") + ";person 11");
        tell(last, "load 0 100");
        due("the twelfth ROOM", last.stand(100, 1, false), 11);
    }

    private static void two() {
        sentence(22, "TWO by beds likewise (N 0 to 24). IllegalArgumentException likewise");
        range("two by PART", 1, 100, ILLEGAL, TrialEdgesTest::pair, (h, n) -> h.two(n, 5));
        range("two by N", 0, 24, ILLEGAL, TrialEdgesTest::pair, (h, n) -> h.two(50, n));
        sentence(22, "two such ROOMS, as bits (of several the least bits); none with fewer than two");
        due("no ROOM", new SandHouse().two(50, 5), -1);
        due("one ROOM", houseOf("room bed 1;person 0").two(50, 5), -1);
        due("two ROOMS", houseOf("room bed 1;room out 1;person 0").two(50, 5), 3);
        SandHouse h = houseOf("room bed 1;room bed 1;room bed 1;room stone 1;person 0;person 1;person 2;load 0 10;load 1 20;load 2 30", "drop 100");
        due("the two fullest", h.two(100, 1), 6);
        due("all alike", h.two(100, 0), 3);
        h.tool(1, 100);
        due("the others", h.two(100, 1), 5);
        h.tool(0, 100);
        due("one bed and the stone", h.two(100, 1), 12);
        h.tool(3, 1);
        due("one is left", h.two(100, 1), -1);
        // bits grow by the greater ROOM: 1 and 2 (6) are less than 0 and 3 (9)
        SandHouse bits = houseOf("room bed 1;room bed 1;room bed 1;room bed 1;" + "person 0;person 1;person 2;person 3;load 0 10;load 1 10;load 2 10;load 3 10",
            "drop 100");
        due("of six the least", bits.two(100, 1), 3);
        bits.tool(0, 1);
        due("of three the least", bits.two(100, 1), 6);
        SandHouse odd = houseOf("room bed 1;room bed 1;room bed 1;room bed 1;person 1;person 2;person 0;person 3;load 0 10;load 1 10;load 2 10;load 3 10",
            "drop 100 if not (room < 1 and part > 0)");
        due("0 is worth more", odd.two(100, 1), 3);
        SandHouse far = houseOf(times("room bed 1", 12, ";") + ";person 11;person 10");
        tell(far, "load 0 100;load 1 100");
        due("the last two", far.two(100, 1), 1 << 11 | 1 << 10);
        // 0 with 3 takes as much as 1 with 2: 6 is less than 9
        SandHouse alike = houseOf("room bed 1;room bed 1;room bed 1;room bed 1;person 0;person 1;person 2;person 3;load 0 10;load 1 20;load 2 20;load 3 30",
            "drop 100");
        due("1 with 3 and 2 with 3: the least", alike.two(100, 1), 10);
        tell(alike, "load 0 10;load 3 10");
        due("0, 1 and 2 with 3: the least", alike.two(100, 1), 9);
    }

    private static void keepers() {
        sentence(23, "KEEPERS by a limit and N ROUNDS (0 to 24). IllegalArgumentException: the limit is below 0, or N is none");
        range("keepers by the limit", 0, GREATEST, ILLEGAL, TrialEdgesTest::pair, (h, n) -> h.keepers(n, 5));
        range("keepers by N", 0, 24, ILLEGAL, TrialEdgesTest::pair, (h, n) -> h.keepers(50, n));
        sentence(23, "the fewest PEOPLE who keep the rule so that grains in beds are the limit at most: of several the least as bits; none");
        SandHouse h = houseOf("room bed 1;person 0;person 0;person 0;load 0 10;load 1 20;load 2 30;tool 0 100;keeps 0 3", "drop 100");
        int[][] limits = {{GREATEST, 0}, {60, 0}, {59, 1}, {50, 1}, {49, 2}, {40, 2}, {39, 4}, {30, 4}, {29, 5}, {20, 5}, {19, 6}, {10, 6}, {9, 7}, {0, 7}};
        for (int[] l : limits) {
            due("keepers(" + l[0] + ", 1)", h.keepers(l[0], 1), l[1]);
        }
        due("without a ROUND", h.keepers(0, 0), 0);
        tell(h, "sand 0 0 1");
        due("a grain that stays", h.keepers(0, 24), -1);
        due("and is allowed", h.keepers(1, 1), 7);
        sentence(23, "(KEEPS 100; all others 0)");
        // draws modulo 100 from SEED 1 on: 38 58: with KEEPS 39 the first would keep as well
        SandHouse keeps = houseOf("room bed 1;person 0;person 0;load 0 10;load 1 20;tool 0 100;keeps 0 39;keeps 1 39", "drop 100");
        due("nobody keeps", keeps.keepers(30, 1), 0);
        due("one has to keep", keeps.keepers(29, 1), 1);
        due("all have to keep", keeps.keepers(0, 1), 3);
        SandHouse one = houseOf("room bed 1;person 0;load 0 10;tool 0 100;keeps 0 50", "drop 100");
        one.seed(seedWith(99));
        due("KEEPS 100 keeps by a draw of 99", one.keepers(9, 1), 1);
        one.seed(seedWith(0));
        due("KEEPS 0 does not keep by a draw of 0", one.keepers(9, 1), 1);
        due("the limit at most", one.keepers(10, 1), 0);
        SandHouse eight = houseOf("room bed 1;tool 0 100;" + times("person 0", 8, ";"), "drop 100");
        tell(eight, "load 7 5;load 6 5");
        due("one of the last two", eight.keepers(5, 1), 64);
        due("the last two", eight.keepers(4, 1), 192);
        due("nobody in no house", new SandHouse().keepers(0, 24), 0);
    }

    private static void chores() {
        sentence(24, "IllegalArgumentException: the limit is below 0");
        for (boolean rooms : new boolean[] {false, true}) {
            range("chores", 0, GREATEST, ILLEGAL, TrialEdgesTest::pair, (h, n) -> h.chores(n, rooms));
        }
        sentence(24, "the fewest MINUTES of ROOMS by which grains are the limit at most: MINUTES; the ROOMS, of several the least as bits; none");
        SandHouse h = houseOf("room out 1;room stone 5;room carpet 2;room bed 3;room drain 99;person 0;sand 0 0 999;sand 1 0 10;sand 2 0 4;sand 3 0 6;"
            + "sand 4 0 2", "sweep 100");
        int[][] limits = {{22, 0, 0}, {21, 2, 4}, {18, 2, 4}, {17, 3, 8}, {16, 3, 8}, {15, 5, 2}, {12, 5, 2}, {11, 7, 6}, {8, 7, 6}, {7, 8, 10}, {6, 8, 10},
            {5, 10, 14}, {2, 10, 14}, {1, 109, 30}, {0, 109, 30}};
        for (int[] l : limits) {
            due("MINUTES by " + l[0], h.chores(l[0], false), l[1]);
            due("ROOMS by " + l[0], h.chores(l[0], true), l[2]);
        }
        sentence(24, "not those out");
        due("the greatest limit", h.chores(GREATEST, true), 0);
        rule(h, "sweep 50");
        due("half of all", h.chores(11, true), 30);
        due("more than half", h.chores(10, true), -1);
        due("MINUTES of more than half", h.chores(10, false), -1);
        SandHouse out = houseOf("room out 1;person 0;sand 0 0 9");
        due("out has its sand", out.chores(0, false), 0);
        sentence(24, "of several the least as bits");
        SandHouse alike = houseOf("room bed 3;room bed 1;room bed 2;person 0;sand 0 0 10;sand 1 0 5;sand 2 0 5", "sweep 100");
        due("0, or 1 with 2", alike.chores(10, true), 1);
        SandHouse other = houseOf("room bed 1;room bed 2;room bed 3;person 0;sand 0 0 5;sand 1 0 5;sand 2 0 10", "sweep 100");
        due("0 with 1, or 2", other.chores(10, true), 3);
        SandHouse empty = houseOf("room bed 1;room bed 1;person 0;sand 1 0 5", "sweep 100");
        due("an empty ROOM is not swept for nothing", empty.chores(0, true), 2);
        sentence(24, "each swept once, by SWEEPS of each");
        rule(other, "sweep 20 if room < 1;sweep 100 if here > 5");
        due("SWEEPS differ", other.chores(9, true), 5);
        due("SWEEPS differ, none", other.chores(8, true), -1);
        SandHouse many = houseOf(times("room bed 9", 12, ";") + ";person 0");
        StringBuilder sand = new StringBuilder("sand 0 0 2");
        for (int room = 1; room < 12; room++) {
            sand.append(";sand ").append(room).append(" 0 2");
        }
        tell(many, sand.toString());
        due("all twelve", many.chores(12, true), 4095);
        due("MINUTES of all twelve", many.chores(12, false), 108);
        due("eleven of them", many.chores(13, true), 2047);
        due("none", many.chores(11, false), -1);
    }

    private static void often() {
        sentence(25, "OFTEN by a limit and N ROUNDS (1 to 24). IllegalArgumentException: the limit is below 0, or N is none");
        range("often by the limit", 0, GREATEST, ILLEGAL, TrialEdgesTest::pair, (h, n) -> h.often(n, 5));
        range("often by N", 1, 24, ILLEGAL, TrialEdgesTest::pair, (h, n) -> h.often(50, n));
        sentence(25, "the greatest K (1 to N): never more grains in beds behind a ROUND (and its sweeping) than the limit; none");
        // 10 fall in each ROUND, all are swept: behind K - 1 ROUNDS there are 10 times as many, behind the K-th none
        SandHouse h = houseOf("room bed 1;person 0", "bring 10;drop 100;sweep 100");
        int[][] due = {{0, 1, 1}, {0, 24, 1}, {9, 24, 1}, {10, 24, 2}, {19, 24, 2}, {20, 24, 3}, {229, 24, 23}, {230, 24, 24}, {239, 24, 24}, {240, 24, 24},
            {9, 2, 1}, {10, 2, 2}, {GREATEST, 24, 24}, {0, 2, 1}};
        for (int[] d : due) {
            due("often(" + d[0] + ", " + d[1] + ")", h.often(d[0], d[1]), d[2]);
        }
        rule(h, "bring 10;drop 100;sweep 90");
        // of 10 one is left, then of 11 two
        due("one is left behind the first", h.often(1, 1), 1);
        due("one is too many", h.often(0, 1), -1);
        due("two are left behind the second", h.often(2, 2), 1);
        due("two are too many", h.often(1, 2), -1);
        sentence(25, "behind a ROUND: what is there now does not count");
        SandHouse full = houseOf("room bed 1;person 0;sand 0 0 500", "sweep 100");
        due("swept behind the first", full.often(0, 24), 1);
        due("500 are allowed", full.often(500, 24), 24);
        due("499 are allowed", full.often(499, 24), 1);
        sentence(25, "all ROOMS but those out are swept");
        SandHouse out = houseOf("room out 1;room stone 1;room bed 1;door 0 2;door 1 2;person 2 0;person 2 1;sand 0 0 100;sand 1 1 100",
            "pick 100 if out or stone;drop 100 if bed;sweep 100");
        // behind ROUND 1 both are where the sand lies and carry it; behind ROUND 2 200 are in the bed, which may be swept
        due("swept behind the second", out.often(0, 2), 2);
        due("swept behind the first and the second", out.often(199, 1), 1);
        SandHouse stone = houseOf("room out 1;room stone 1;room bed 1;door 0 2;door 1 2;person 2 2 0;person 2 2 1;sand 0 0 100;sand 1 1 100",
            "pick 100 if out or stone;drop 100 if bed;sweep 100 if not bed");
        // the stone is swept behind the first ROUND, ahead of being picked up in the second; out is not
        due("out alone comes into the bed", stone.often(100, 3), 1);
        due("out is not swept", stone.often(99, 3), -1);
        due("both come into the bed", stone.often(200, 3), 3);
    }

    private static void when() {
        sentence(26, "WHEN by a limit (1 to 99999). IllegalArgumentException: the limit is none");
        range("when", 1, 99999, ILLEGAL, TrialEdgesTest::pair, (h, n) -> h.when(n));
        sentence(26, "the least number of ROUNDS (0 to 300) behind which as many grains at least are in beds; none");
        SandHouse h = houseOf("room bed 1;room stone 1;person 0;sand 1 0 9999", "bring 10;drop 100");
        int[][] due = {{1, 1}, {10, 1}, {11, 2}, {20, 2}, {21, 3}, {2990, 299}, {2991, 300}, {3000, 300}, {3001, -1}, {99999, -1}};
        for (int[] d : due) {
            due("when(" + d[0] + ")", h.when(d[0]), d[1]);
        }
        h.rounds(1);
        due("now", h.when(10), 0);
        due("next", h.when(11), 1);
        SandHouse many = houseOf("room bed 1;room bed 1;person 0;" + times("sand 0 0 9999", 10, ";"));
        tell(many, "sand 1 0 8");
        due("99998 are not 99999", many.trial(0, 0), 99998);
        rule(many, "bring 1;drop 100");
        due("99999 in beds", many.when(99999), 1);
        tell(many, "sand 1 0 1");
        due("99999 in beds now", many.when(99999), 0);
    }

    private static void clogs() {
        sentence(27, "CLOGS: in how many ROUNDS (0 to 300) drains are clogged; none");
        SandHouse h = houseOf("room drain 1;person 0;clog 1", "bring 10 if round > 298;drop 100");
        due("in 300", h.clogs(), 300);
        rule(h, "bring 10 if round > 299;drop 100");
        due("in 301", h.clogs(), -1);
        rule(h, "bring 10;drop 100");
        due("in 1", h.clogs(), 1);
        rule(h, "bring 9 if round < 1;drop 100");
        due("a tenth of 9 is none", h.clogs(), -1);
        tell(h, "clog 0");
        due("at once", h.clogs(), 0);
        SandHouse exact = houseOf("room drain 1;room stone 1;person 1;sand 0 0 100;clog 10", "");
        due("10 are as many", exact.clogs(), 1);
        tell(exact, "clog 11");
        due("10 are fewer than 11", exact.clogs(), 2);
        exact.rounds(1);
        due("from now on", exact.clogs(), 1);
        exact.rounds(1);
        due("now", exact.clogs(), 0);
        SandHouse swept = houseOf("room drain 1;room bed 1;person 1;sand 1 0 100;tool 1 50;load 0 100;clog 10", "sweep 50");
        due("50 are swept", swept.sweep(1), 50);
        due("what is GONE elsewhere does not clog", swept.clogs(), -1);
        due("without a drain", houseOf("room bed 1;person 0;clog 1").clogs(), -1);
        due("without a drain, CLOG 0", houseOf("room bed 1;person 0;clog 0").clogs(), 0);
    }

    private static void fades() {
        sentence(28, "IllegalArgumentException: the limit is below 0");
        range("fades", 0, GREATEST, ILLEGAL, TrialEdgesTest::pair, (h, n) -> h.fades(n));
        sentence(28, "how often till they have as few grains together (0 to 99; none, if not within 99)");
        SandHouse h = houseOf("room out 1;room stone 1;room bed 1;person 1;sand 0 0 77;sand 1 0 200;sand 2 0 100", "sweep 50");
        // 200 100 50 25 13 7 4 2 1, and 100 50 25 13 7 4 2 1: a last grain has no half
        int[][] due = {{300, 0}, {299, 1}, {150, 1}, {149, 2}, {75, 2}, {74, 3}, {38, 3}, {37, 4}, {20, 4}, {11, 5}, {6, 6}, {3, 7}, {2, 8}, {1, -1}, {0, -1},
            {GREATEST, 0}};
        for (int[] d : due) {
            due("fades(" + d[0] + ")", h.fades(d[0]), d[1]);
        }
        // one grain a sweeping: 1 in a hundred of 100 to 199 is one
        SandHouse slow = houseOf("room bed 1;person 0;sand 0 0 199", "sweep 1");
        due("in 98", slow.fades(101), 98);
        due("in 99", slow.fades(100), 99);
        due("in 100", slow.fades(99), -1);
        sentence(28, "if nobody goes any more");
        SandHouse still = houseOf("room out 1;room drain 1;room bed 1;door 1 2;person 1 2;load 0 999;sand 1 0 100;sand 2 0 100", "sweep 50;bring 200;drop 50");
        due("nothing is brought, falls or drains", still.fades(100), 1);
        due("nothing in 7", still.fades(2), 7);
        rule(still, "sweep 100 if round > 0");
        due("no ROUND goes on", still.fades(0), -1);
        rule(still, "sweep 50 if here > 60;sweep 20 if here < 61");
        due("SWEEPS as all is by then", still.fades(80), 2);
        rule(still, "");
        due("never", still.fades(199), -1);
        due("at once", still.fades(200), 0);
    }

    private static void later() {
        sentence(29, "LATER of a ROOM by N ROUNDS (0 to 24). IllegalArgumentException: N is none");
        range("later", 0, 24, ILLEGAL, TrialEdgesTest::pair, (h, n) -> h.later(1, n));
        for (int none : new int[] {-1, 3, LEAST, GREATEST}) {
            SandHouse h = pair();
            refusedWhole("later(" + none + ", 25)", INDEX, h, () -> h.later(none, 25));
        }
        sentence(29, "behind how many ROUNDS (0 to N) it is best swept, once (behind N: that sweeping, too): of several the least");
        SandHouse more = houseOf("room bed 1;person 0", "bring 10;drop 100;sweep 100");
        for (int n : new int[] {0, 1, 2, 23, 24}) {
            due("the last by " + n, more.later(0, n), n);
        }
        rule(more, "bring 10 if round < 5;drop 100;sweep 100");
        due("the fifth", more.later(0, 24), 5);
        due("by 4 the fourth", more.later(0, 4), 4);
        rule(more, "bring 10 if round < 5;drop 100;sweep 100 if round < 3");
        due("as long as it can be swept", more.later(0, 24), 2);
        rule(more, "bring 10 if round < 5;drop 100;sweep 100 if round < 1");
        due("all alike", more.later(0, 24), 0);
        SandHouse out = houseOf("room out 1;room bed 1;person 0;person 1;sand 0 0 5", "sweep 100");
        due("out is swept as well, at once", out.later(0, 24), 0);
        rule(out, "bring 5 if out and round < 1;drop 100;sweep 100");
        due("out, behind the first", out.later(0, 24), 1);
        due("another ROOM", out.later(1, 24), 0);
    }

    private static void towel() {
        sentence(30, "TOWEL by N ROUNDS (0 to 24). IllegalArgumentException: N is none");
        range("towel", 0, 24, ILLEGAL, TrialEdgesTest::pair, (h, n) -> h.towel(1, 1, n));
        for (int none : new int[] {-1, 3, LEAST, GREATEST}) {
            SandHouse h = pair();
            refusedWhole("towel(0, " + none + ", 25)", INDEX, h, () -> h.towel(0, none, 25));
        }
        for (int none : new int[] {-1, 2, LEAST, GREATEST}) {
            SandHouse h = pair();
            refusedWhole("towel(" + none + ", 0, 25)", INDEX, h, () -> h.towel(none, 0, 25));
        }
        sentence(30, "one is beaten out behind each ROUND at whose end one is in that ROOM (it may be below 0)");
        SandHouse h = houseOf("room stone 1;room bed 1;door 0 1;person 0 1;load 0 160", "drop 100 if bed and round > 2");
        // at ROUND 3 the load falls in the bed; in the bed behind ROUNDS 1 and 3, on stone behind 2
        due("no ROUND", h.towel(0, 0, 0), 0);
        due("by 3 on stone", h.towel(0, 0, 3), 0);
        due("by 5 on stone, twice", h.towel(0, 0, 5), 120);
        due("by 5 in the bed, twice", h.towel(0, 1, 5), 120);
        due("by 4: not fallen yet", h.towel(0, 0, 4), 0);
        tell(h, "room stone 1");
        due("never there", h.towel(0, 2, 24), 0);
        rule(h, "drop 100 if load < 81");
        due("below 0", h.towel(0, 0, 3), -80);
        SandHouse each = houseOf("room bed 1;person 0;person 0;load 0 16;load 1 160", "drop 50");
        // 8 and then 2 of what is left, in place of 4
        due("one's own alone", each.towel(0, 0, 2), 2);
        due("the other's alone", each.towel(1, 0, 2), 20);
    }

    private static void towelled() {
        sentence(31, "TOWELLED by N ROUNDS (0 to 24). IllegalArgumentException: N is none");
        range("towelled", 0, 24, ILLEGAL, TrialEdgesTest::pair, (h, n) -> h.towelled(1, n));
        for (int none : new int[] {-1, 2, LEAST, GREATEST}) {
            SandHouse h = pair();
            refusedWhole("towelled(" + none + ", 25)", INDEX, h, () -> h.towelled(none, 25));
        }
        sentence(31, "the ROOM (of the HABIT) with the greatest TOWEL; of several the least");
        SandHouse h = houseOf("room stone 1;room stone 1;room bed 1;door 1 2;person 2 1;load 0 100", "drop 50 if bed");
        due("0 is not of the HABIT", h.towelled(0, 0), 1);
        due("1 ahead of the bed", h.towelled(0, 2), 1);
        // in the bed 50 fall behind ROUND 2 alone, so a towel there comes too late by 3
        due("the bed comes too late", h.towel(0, 2, 3), 0);
        rule(h, "drop 50 if bed and round > 2");
        due("beaten out twice ahead of the fall", h.towel(0, 1, 4), 38);
        due("beaten out once ahead of the fall", h.towel(0, 2, 4), 25);
        due("the greater of both", h.towelled(0, 4), 1);
        SandHouse below = houseOf("room stone 1;room bed 1;room bed 1;door 1 2;person 2 1;load 0 100", "drop 60 if load < 60");
        due("all below 0: towel of 1", below.towel(0, 1, 2), -30);
        due("all below 0: towel of 2", below.towel(0, 2, 2), 0);
        due("0 is greater than below 0", below.towelled(0, 2), 2);
        SandHouse one = houseOf("room stone 1;room bed 1;person 1;load 0 100", "drop 60 if load < 60");
        due("the only one, below 0", one.towel(0, 1, 2), -30);
        due("and yet the one", one.towelled(0, 2), 1);
        SandHouse last = houseOf(times("room bed 1", 12, ";") + ";person 11");
        due("the twelfth ROOM", last.towelled(0, 24), 11);
    }

    private static void span() {
        sentence(32, "SPAN by N ROUNDS (0 to 24). IllegalArgumentException: N is none");
        for (boolean most : new boolean[] {false, true}) {
            range("span", 0, 24, ILLEGAL, TrialEdgesTest::pair, (h, n) -> h.span(n, most));
        }
        sentence(32, "the fewest and the most grains in beds behind a TRIAL from SEED 1, 2, .. 8");
        SandHouse h = houseOf("room bed 1;person 0;load 0 100;tool 0 50;keeps 0 0", "drop 100");
        // the first draws modulo 100 of SEED 0 to 9, worked out here
        int least = 100;
        int most = 0;
        for (int seed = 1; seed <= 8; seed++) {
            int draw = drawOf(seed) % 100;
            least = Math.min(least, draw);
            most = Math.max(most, draw);
        }
        h.keep(0, least);
        due("nobody keeps by any SEED", h.span(1, false), 100);
        h.keep(0, least + 1);
        due("by one SEED", h.span(1, false), 50);
        due("by the others not", h.span(1, true), 100);
        h.keep(0, most);
        due("by all but one", h.span(1, true), 100);
        h.keep(0, most + 1);
        due("by all", h.span(1, true), 50);
        h.seed(-5);
        due("SEED now does not matter", h.span(1, true), 50);
        due("SEED stays", h.seed(1), -5);
        due("no ROUND, the fewest", h.span(0, false), 0);
        tell(h, "sand 0 0 3");
        due("no ROUND, the fewest of 3", h.span(0, false), 3);
        due("no ROUND, the most of 3", h.span(0, true), 3);
    }

    private static void peak() {
        sentence(33, "PEAK by N ROUNDS (1 to 100). IllegalArgumentException: N is none");
        range("peak", 1, 100, ILLEGAL, TrialEdgesTest::pair, (h, n) -> h.peak(n));
        sentence(33, "behind which ROUND (1 to N) beds had the most more than behind the one before (the first such)");
        SandHouse h = houseOf("room bed 1;room stone 1;person 0;sand 0 0 500", "bring 10;drop 100");
        due("all alike", h.peak(100), 1);
        due("what is there now does not count", h.peak(1), 1);
        rule(h, "bring 10;bring 1 if round > 1;drop 100");
        due("by 2", h.peak(2), 1);
        due("by 3", h.peak(3), 3);
        due("by 100 the first such", h.peak(100), 3);
        rule(h, "bring 10;bring 1 if round > 98;drop 100");
        due("by 99", h.peak(99), 1);
        due("by 100", h.peak(100), 100);
        rule(h, "bring 10;bring 1 if round > 99;drop 100");
        due("not the 101st", h.peak(100), 1);
        rule(h, "");
        due("never more", h.peak(100), 1);
        rule(h, "pick 50 if round < 1;pick 10 if round > 0");
        due("the least fewer by 1", h.peak(1), 1);
        due("the least fewer by 2", h.peak(2), 2);
        // 500: 250 are picked up, then 25, 22, 20, 18: always fewer at a time
        due("the least fewer by 5", h.peak(5), 5);
        h.rounds(1);
        due("from now on", h.peak(1), 1);
        SandHouse stone = houseOf("room bed 1;room stone 1;person 0;sand 1 0 500", "bring 10 if round < 1;bring 5 if round > 0;drop 100");
        due("what lies on stone does not count", stone.peak(2), 1);
        due("what lies on stone does not count by 100", stone.peak(100), 1);
    }
}
