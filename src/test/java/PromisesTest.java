/** For each promise answers that were worked out by hand from the document: ordinary, at edges, and refusals. */
public final class PromisesTest extends Due {
    public static void main(String[] args) {
        newObjectAndTape();
        houseTexts();
        wrongHouseTexts();
        lawTexts();
        wrongLawTexts();
        tellings();
        rules();
        roundsGo();
        draws();
        drains();
        acts();
        trialsAndTools();
        keepersAndChores();
        oftenAndWhen();
        laterAndTowel();
        owners();
        waysAndMeetings();
        noons();
        logs();
        undone();
        images();
        counts();
        fullTape();
        fullHouse();
        leastNumbers();
        finish();
    }

    private static void newObjectAndTape() {
        promise = 1;
        SandHouse h = new SandHouse();
        int[] fresh = {0, 0, 0, 0, -1, 0, 0, 0, 0, 0, 0, 1000, 0, 0, 0};
        for (int i = 0; i < fresh.length; i++) {
            due("count(" + i + ")", h.count(i), fresh[i]);
        }
        due("fault", h.fault(), -1);
        due("seed", h.seed(1), 1);
        due("stand of no room", h.stand(5, 3, true), -1);
        due("two of no room", h.two(5, 3), -1);
        due("keepers of nobody", h.keepers(0, 24), 0);
        due("often in no bed", h.often(0, 24), 24);
        due("peak in no bed", h.peak(5), 1);
        due("blame", h.blame(), -1);
        due("heels", h.heels(-1), 0);
        promise = 2;
        due("feed", h.feed(0x726f6f6d, 0x206f7574, 0x20313b72, 0x6f6f6d20, 0x62656420), 20);
        due("end", h.end(10), true);
        due("house", h.house(), 1);
        due("sort", h.room(0, 0), 0);
        for (int i = 1; i <= 20; i++) {
            due("feed " + i, h.feed(-1, -1, -1, -1, -1), 20 * i);
        }
        due("feed 21", h.feed(0, 0, 0, 0, 0), -1);
        promise = 3;
        due("end behind", h.end(401), false);
        due("end below", h.end(-1), false);
        due("end of all", h.end(400), true);
        due("end early", h.end(381), true);
        due("feed of 381", h.feed(0, 0, 0, 0, 0), -1);
        due("end of 380", h.end(380), true);
        due("feed of 380", h.feed(0, 0, 0, 0, 0), 400);
        due("end of none", h.end(0), true);
        due("end of one", h.end(1), false);
    }

    private static void houseTexts() {
        promise = 4;
        SandHouse h = new SandHouse();
        for (int i = 1; i <= 11; i++) {
            tape(h, i % 2 == 0 ? "" : "   ");
            due("house " + i, h.house(), i);
        }
        tape(h, "room bed 99;person 0;clog 99999;clog 0;load 0 00007");
        due("house 12", h.house(), 12);
        due("clog", h.count(11), 0);
        due("load", h.person(0, 1), 7);
        tape(h, "room bed 1");
        refused("house 13", UNSUPPORTED, h::house);
        due("rooms", h.count(0), 1);
        due("texts", h.count(3), 12);
        due("the tape is used up", h.end(1), false);
        tape(h, "room");
        refused("wrong house 13", ILLEGAL, h::house);
        promise = 6;
        due("fault of the wrong one", h.fault(), 4);
        tape(h, "room bed 1");
        refused("house 13 again", UNSUPPORTED, h::house);
        due("fault of one refused", h.fault(), -1);
        promise = 4;
        SandHouse glued = houseOf("  room   bed2 ;room out03;door0 1 ; person 0  1;tool 1 100;keeps0 0;wet 0 99;sand 1 0 9999  ");
        due("glued minutes", glued.room(0, 1), 2);
        due("leading zeros", glued.room(1, 1), 3);
        due("glued tool", glued.room(1, 2), 100);
        due("glued keeps", glued.person(0, 2), 0);
        due("glued wet", glued.person(0, 3), 99);
        due("glued sand", glued.sand(1, 0), 9999);
        SandHouse twice = houseOf("room out 1;room bed 1;door 0 1;door 1 0;person 0 1;load 0 9990;load 0 20;sand 0 0 1;tool 0 5;tool 0 0");
        due("doors told twice", twice.count(1), 2);
        due("a load is full", twice.person(0, 1), 9999);
        due("told", twice.count(9), 10000);
        due("tool taken away", twice.room(0, 2), 0);
        SandHouse lines = new SandHouse();
        tape(lines, times("clog 1", 14, ";"));
        due("14 lines", lines.house(), 1);
        SandHouse steps = houseOf("room bed 1;person " + times("0", 12, " "));
        due("12 steps", steps.person(0, 4), 12);
    }

    private static void wrongHouseTexts() {
        promise = 6;
        wrongHouse("", ";", 0);
        wrongHouse("", "  ;", 2);
        wrongHouse("", "clog 1;;clog 1", 7);
        wrongHouse("", "clog 1; ", 8);
        wrongHouse("", "clog 1 2", 7);
        wrongHouse("", "clog 1 clog 1", 7);
        wrongHouse("", "Clog 1", 0);
        wrongHouse("", "clog\t1", 4);
        wrongHouse("", "clogs 1", 0);
        wrongHouse("", "roomout 1", 0);
        wrongHouse("", "room out ", 9);
        wrongHouse("", "room out;", 8);
        wrongHouse("", "room 1", 5);
        wrongHouse("", "room bed 100", 9);
        wrongHouse("", "room bed 0", 9);
        wrongHouse("", "room outs 1", 5);
        wrongHouse("", "room out 000001", 9);
        wrongHouse("", "clog -1", 5);
        wrongHouse("", "clog 99999999999999999999", 5);
        wrongHouse("", times("clog 1", 14, ";") + "; ", 99);
        wrongHouse("", times("clog 1", 14, ";") + "; foo", 99);
        String two = "room out 1;room bed 1";
        wrongHouse(two, "door 0", 6);
        wrongHouse(two, "door 0 2", 7);
        wrongHouse(two, "door 1 1", 7);
        wrongHouse(two, "person", 6);
        wrongHouse(two, "person ;", 7);
        wrongHouse(two, "person 2", 7);
        wrongHouse(two, "person 0 x", 9);
        wrongHouse(two, "person 0 1", 9);
        wrongHouse(two, "person 0;load 1 5", 14);
        wrongHouse(two, "person 0;wet 0 100", 15);
        wrongHouse(two, "person 0;keeps 0 101", 17);
        wrongHouse(two, "person 0;sand 0 0 10000", 18);
        wrongHouse(two, "person 0;sand 2 0 1", 14);
        wrongHouse(two, "person 0;sand 0 1 1", 16);
        wrongHouse(two, "tool 2 1", 5);
        wrongHouse(two, "tool 0 101", 7);
        wrongHouse(two, "person " + times("0", 13, " "), 31);
        String three = two + ";room bed 1;door 0 1;door 1 2";
        wrongHouse(three, "person 0 1 2", 11);
        wrongHouse(three, "person 0 1 2;clog 1", 11);
        wrongHouse(three, "person 0 1 2 x", 11);
        wrongHouse(three, "person 0 2", 9);
        wrongHouse(three, "person 0 1 9 9", 11);
        wrongHouse(times("room bed 1", 12, ";"), "clog 1; room bed 1", 8);
        wrongHouse("room bed 1;" + times("person 0", 8, ";"), "person 0", 0);
        SandHouse doors = houseOf(two + ";" + times("door 0 1", 12, ";"));
        tell(doors, times("door 0 1", 8, ";"));
        due("20 doors", doors.count(1), 20);
        tape(doors, "clog 5;door 0 1");
        refused("door 21", ILLEGAL, doors::house);
        due("fault of door 21", doors.fault(), 7);
        due("clog of a wrong text", doors.count(11), 1000);
        rule(doors, "drop 5");
        due("fault behind a right law", doors.fault(), -1);
        tape(doors, "a");
        refused("noon", ILLEGAL, doors::noon);
        due("fault behind noon", doors.fault(), -1);
    }

    private static void lawTexts() {
        promise = 5;
        SandHouse h = houseOf("room out 1;room stone 1;room carpet 1;room bed 1;room drain 1;person 0;person 1;wet 1 1;load 1 9;"
            + "sand 3 0 5;tool 4 7");
        tape(h, "");
        due("no line", h.law(), 0);
        due("rule without lines", h.rule(0, 0, 0), 0);
        due("sweeps without lines", h.room(0, 6), 0);
        tape(h, "bring 150;bring 100;drop 60;drop 60;pick 999;sweep 99;sweep 2");
        due("seven lines", h.law(), 7);
        due("bring at most", h.rule(0, 1, 0), 200);
        due("drop at most", h.rule(0, 1, 1), 100);
        due("pick at most", h.rule(0, 1, 2), 100);
        due("sweep at most", h.room(1, 6), 100);
        tape(h, times("drop 1", 12, ";"));
        due("twelve lines", h.law(), 12);
        due("twelve of them", h.rule(1, 0, 1), 12);
        String[] sorts = {"out", "stone", "carpet", "bed", "drain"};
        for (int i = 0; i < 5; i++) {
            rule(h, "drop 7 if " + sorts[i] + ";sweep 3 if not" + " " + sorts[i]);
            for (int room = 0; room < 5; room++) {
                due("drop if " + sorts[i] + " in " + room, h.rule(0, room, 1), room == i ? 7 : 0);
                due("sweep if not " + sorts[i] + " in " + room, h.room(room, 6), room == i ? 0 : 3);
            }
        }
        holds(h, "wet", 1, 0, true);
        holds(h, "wet", 0, 0, false);
        holds(h, "person > 0", 1, 0, true);
        holds(h, "person > 0", 0, 0, false);
        holds(h, "room + 1 > 2 + person", 0, 2, true);
        holds(h, "room + 1 > 2 + person", 1, 2, false);
        holds(h, "load < 9", 1, 0, false);
        holds(h, "load<10", 1, 0, true);
        holds(h, "here > 4", 0, 3, true);
        holds(h, "here > 5", 0, 3, false);
        holds(h, "part + part > 13", 0, 4, true);
        holds(h, "part > 0", 0, 3, false);
        holds(h, "round < 1", 0, 0, true);
        holds(h, "round > 0", 0, 0, false);
        holds(h, "1 < 1", 0, 0, false);
        holds(h, "wet or bed and out", 1, 0, true);
        holds(h, "wet or bed and out", 0, 0, false);
        holds(h, "(wet or bed) and out", 1, 3, false);
        holds(h, "out and wet or bed", 0, 3, true);
        holds(h, "not wet and out", 0, 0, true);
        holds(h, "not(wet and out)", 1, 0, false);
        holds(h, "not not wet", 1, 0, true);
        holds(h, "((((((wet))))))", 1, 0, true);
        holds(h, "not(not(not(wet)))", 1, 0, false);
        rule(h, "sweep 9 if person + load < 1 and not wet");
        due("sweep knows no person", h.room(0, 6), 9);
        tape(h, "drop");
        refused("a wrong law", ILLEGAL, h::law);
        due("the law before stays", h.count(4), 1);
        due("the law before holds", h.room(0, 6), 9);
    }

    private static void holds(SandHouse h, String condition, int person, int room, boolean want) {
        rule(h, "pick 5 if " + condition);
        due(condition + " of " + person + " in " + room, h.rule(person, room, 2), want ? 5 : 0);
    }

    private static void wrongLawTexts() {
        promise = 6;
        wrongLaw("bring", 5);
        wrongLaw("bring if", 6);
        wrongLaw("bring 0001", 6);
        wrongLaw("bring 5 of", 8);
        wrongLaw("bring 5 iff wet", 8);
        wrongLaw("bring 5 if ", 11);
        wrongLaw("bring 5 if and", 11);
        wrongLaw("bring 5 if wets", 11);
        wrongLaw("bring 5 if wet wet", 15);
        wrongLaw("bring 5 if wet and", 18);
        wrongLaw("bring 5 if wet or ;", 18);
        wrongLaw("bring 5 if not", 14);
        wrongLaw("bring 5 if 1000 > 1", 11);
        wrongLaw("bring 5 if 1 > 1000", 15);
        wrongLaw("bring 5 if 1", 12);
        wrongLaw("bring 5 if 1 > ", 15);
        wrongLaw("bring 5 if 1 + > 1", 15);
        wrongLaw("bring 5 if 1 < 2 < 3", 17);
        wrongLaw("bring 5 if 1 = 1", 13);
        wrongLaw("bring 5 if out < 1", 15);
        wrongLaw("bring 5 if (1) < 2", 13);
        wrongLaw("bring 5 if (wet", 15);
        wrongLaw("bring 5 if (wet;", 15);
        wrongLaw("bring 5 if wet)", 14);
        wrongLaw("bring 5 if ()", 12);
        wrongLaw("bring 5 if (((((((wet)))))))", 17);
        wrongLaw("bring 5 if not(not(not(not wet)))", 23);
        wrongLaw("bring 5 if wet and not not not not not not (wet)", 43);
        wrongLaw(times("drop 1", 12, ";") + ";drop 1", 84);
        wrongLaw(times("drop 1", 12, ";") + ";", 84);
        wrongLaw("drop 1;pick", 11);
        wrongLaw("drop 1;;", 7);
        wrongLaw("room out 1", 0);
        wrongLaw("drop 1" + (char) 233, 6);
    }

    private static void tellings() {
        SandHouse h = houseOf("room out 1;room stone 22;room bed 3;door 0 1;door 2 1;tool 1 30;person 0 1 2 1;person 2;sand 2 0 3;"
            + "sand 2 1 4;load 1 6;wet 1 2;keeps 1 9;clog 7");
        promise = 7;
        int[] stone = {1, 22, 30, 0, 0, 5, 50};
        int[] bed = {3, 3, 0, 7, 2, 2, 50};
        for (int what = 0; what < 7; what++) {
            due("room(1, " + what + ")", h.room(1, what), stone[what]);
            due("room(2, " + what + ")", h.room(2, what), bed[what]);
        }
        refused("room(3, 0)", INDEX, () -> h.room(3, 0));
        refused("room(-1, 9)", INDEX, () -> h.room(-1, 9));
        refused("room(0, 7)", ELEMENT, () -> h.room(0, 7));
        refused("room(0, -1)", ELEMENT, () -> h.room(0, -1));
        promise = 8;
        due("sand(2, 0)", h.sand(2, 0), 3);
        due("sand(2, 1)", h.sand(2, 1), 4);
        due("sand(1, 1)", h.sand(1, 1), 0);
        refused("sand(3, 0)", INDEX, () -> h.sand(3, 0));
        refused("sand(0, 2)", INDEX, () -> h.sand(0, 2));
        refused("sand(0, -1)", INDEX, () -> h.sand(0, -1));
        promise = 9;
        int[] one = {0, 0, 100, 0, 4, 0, 7};
        int[] other = {2, 6, 9, 2, 1, 0, 4};
        for (int what = 0; what < 7; what++) {
            due("person(0, " + what + ")", h.person(0, what), one[what]);
            due("person(1, " + what + ")", h.person(1, what), other[what]);
        }
        refused("person(2, 0)", INDEX, () -> h.person(2, 0));
        refused("person(-1, 9)", INDEX, () -> h.person(-1, 9));
        refused("person(0, 7)", ELEMENT, () -> h.person(0, 7));
        refused("person(0, -1)", ELEMENT, () -> h.person(0, -1));
        promise = 10;
        due("load(1, 1)", h.load(1, 1), 6);
        due("load(1, 0)", h.load(1, 0), 0);
        refused("load(2, 0)", INDEX, () -> h.load(2, 0));
        refused("load(0, 2)", INDEX, () -> h.load(0, 2));
        refused("load(0, -1)", INDEX, () -> h.load(0, -1));
        promise = 11;
        int[] habit = {0, 1, 2, 1, -1};
        for (int k = 0; k < 5; k++) {
            due("habit(0, " + k + ")", h.habit(0, k), habit[k]);
        }
        due("habit(1, 1)", h.habit(1, 1), -1);
        due("habit(0, -1)", h.habit(0, -1), -1);
        refused("habit(2, 0)", INDEX, () -> h.habit(2, 0));
        refused("habit(-1, 0)", INDEX, () -> h.habit(-1, 0));
    }

    private static void rules() {
        promise = 12;
        SandHouse h = houseOf("room out 1;room bed 1;person 0;person 1");
        int[] out = {50, 20, 5};
        int[] in = {0, 20, 5};
        for (int what = 0; what < 3; what++) {
            due("rule(1, 0, " + what + ")", h.rule(1, 0, what), out[what]);
            due("rule(0, 1, " + what + ")", h.rule(0, 1, what), in[what]);
        }
        refused("rule(2, 0, 0)", INDEX, () -> h.rule(2, 0, 0));
        refused("rule(0, 2, 0)", INDEX, () -> h.rule(0, 2, 0));
        refused("rule(-1, 0, 9)", INDEX, () -> h.rule(-1, 0, 9));
        refused("rule(0, 0, 3)", ELEMENT, () -> h.rule(0, 0, 3));
        refused("rule(0, 0, -1)", ELEMENT, () -> h.rule(0, 0, -1));
        rule(h, "bring 3 if room > person;drop 4 if round > 1");
        due("bring by room and person", h.rule(0, 1, 0), 3);
        due("bring by one's own room", h.rule(1, 1, 0), 0);
        due("drop ahead", h.rule(0, 0, 1), 0);
        h.rounds(2);
        due("drop by round", h.rule(0, 0, 1), 4);
    }

    private static void roundsGo() {
        promise = 13;
        SandHouse h = houseOf(WALK, HALVES);
        due("rounds(1)", h.rounds(1), 100);
        due("rounds(3)", h.rounds(3), 50 + 25 + 12);
        due("place", h.person(0, 5), 0);
        due("out", h.room(0, 3), 12);
        due("stone", h.room(1, 3), 125);
        due("bed", h.room(2, 3), 50);
        due("load", h.person(0, 1), 13);
        due("round", h.count(5), 4);
        due("rounds(100)", h.rounds(100), 12);
        refused("rounds(0)", ILLEGAL, () -> h.rounds(0));
        refused("rounds(101)", ILLEGAL, () -> h.rounds(101));
        refused("rounds(-1)", ILLEGAL, () -> h.rounds(-1));
        due("round behind refusals", h.count(5), 104);
        // wet: nothing falls for two rounds, but one still picks up
        SandHouse wet = houseOf("room stone 1;person 0;load 0 100;sand 0 0 40;wet 0 2", "drop 50;pick 10;bring 1 if wet");
        due("wet falls", wet.rounds(1), 0);
        due("wet load", wet.person(0, 1), 105);
        due("wet less", wet.person(0, 3), 1);
        due("wet falls again", wet.rounds(1), 0);
        due("wet load again", wet.person(0, 1), 109);
        due("dry", wet.person(0, 3), 0);
        due("dry falls", wet.rounds(1), 54);
        due("dry stays", wet.person(0, 3), 0);
        // 33 and 54 there: of 87 8 are picked up, those that fell just now too
        due("dry load", wet.person(0, 1), 55 + 8);
        // each one's grains by itself: 19 of one and 19 of the other leave 1 and 1 of ten in a hundred
        SandHouse each = houseOf("room stone 1;person 0;person 0;sand 0 0 19;sand 0 1 19", "pick 10");
        each.rounds(1);
        due("each one's own", each.load(0, 0), 1);
        due("each one's other", each.load(0, 1), 1);
        due("by numbers", each.load(1, 0), 1);
        due("left", each.room(0, 3), 34);
        // a load of 9999 at most: the last grain that fits, and one too many
        SandHouse full = houseOf("room stone 1;person 0;load 0 9989;sand 0 0 100", "pick 10");
        full.rounds(1);
        due("just full", full.person(0, 1), 9999);
        SandHouse over = houseOf("room stone 1;person 0;load 0 9990;sand 0 0 100", "pick 10");
        over.rounds(1);
        due("none of too many", over.person(0, 1), 9990);
        SandHouse brought = houseOf("room out 1;person 0;load 0 9980", "bring 50");
        brought.rounds(1);
        due("what is above does not come", brought.person(0, 1), 9999);
        due("told and brought", brought.count(9), 9999);
        // the law as all is by then: bring sees the load ahead, drop the one behind it, pick what fell
        SandHouse then = houseOf("room stone 1;person 0;load 0 10", "bring 90 if load < 11;drop 50 if load > 99;pick 10 if here > 49");
        then.rounds(1);
        due("by then load", then.person(0, 1), 55);
        due("by then room", then.room(0, 3), 45);
        SandHouse still = houseOf("room out 1;person 0");
        still.rounds(1);
        due("without a law", still.person(0, 1), 40);
        due("without a law in the room", still.room(0, 3), 10);
    }

    private static void draws() {
        promise = 13;
        // draws from SEED 1 on modulo 100: 38 58 13 15 51 27 10 19 12 86
        int[] behind39 = {500, 500, 250, 125, 125, 63, 32, 16, 8, 8};
        SandHouse h = houseOf("room stone 1;person 0;load 0 1000;tool 0 50;keeps 0 39", "");
        for (int i = 0; i < 10; i++) {
            h.rounds(1);
            due("load behind draw " + i, h.person(0, 1), behind39[i]);
        }
        SandHouse under = houseOf("room stone 1;person 0;load 0 1000;tool 0 50;keeps 0 38", "");
        under.rounds(1);
        due("38 is not below 38", under.person(0, 1), 1000);
        due("gone", under.count(8), 0);
        promise = 45;
        due("a draw moves the seed", under.seed(1), 1103527590);
        due("seed is told", under.seed(-7), 1);
        due("seed below 0", under.seed(0), -7);
        SandHouse none = houseOf("room stone 1;person 0;load 0 10");
        none.rounds(9);
        due("no draw without a tool", none.seed(1), 1);
        SandHouse sure = houseOf("room stone 1;person 0;tool 0 50;keeps 0 0");
        sure.rounds(1);
        due("a draw also of who never keeps", sure.seed(1), 1103527590);
    }

    private static void drains() {
        promise = 13;
        SandHouse h = houseOf("room drain 1;room drain 1;room stone 1;person 2;person 2;sand 0 0 109;sand 0 1 19;sand 1 0 50;clog 11", "");
        h.rounds(1);
        // a tenth of 109 and of 19: 11, so the second drain is clogged by then
        due("first drain", h.room(0, 3), 117);
        due("second drain", h.room(1, 3), 50);
        due("drained", h.count(10), 11);
        due("gone", h.count(8), 11);
        promise = 27;
        due("clogs now", h.clogs(), 0);
        tell(h, "clog 12");
        due("clogs next", h.clogs(), 1);
        tell(h, "clog 5000");
        due("clogs never", h.clogs(), -1);
        SandHouse at300 = houseOf("room drain 1;person 0;load 0 10;clog 1", "drop 100 if round > 298");
        due("clogs in 300", at300.clogs(), 300);
        rule(at300, "drop 100 if round > 299");
        due("clogs in 301", at300.clogs(), -1);
        due("clogs at 0", houseOf("clog 0").clogs(), 0);
    }

    private static void acts() {
        SandHouse h = houseOf("room out 7;room bed 5;person 0;person 1;load 0 7;sand 1 0 19;sand 1 1 5;tool 1 4", "sweep 30");
        tell(h, "sand 0 0 10");
        promise = 14;
        due("sweep(1)", h.sweep(1), 5 + 1);
        due("left of one", h.sand(1, 0), 14);
        due("left of the other", h.sand(1, 1), 4);
        due("minutes", h.count(12), 5);
        due("sweep(0)", h.sweep(0), 3);
        due("minutes of both", h.count(12), 12);
        due("gone", h.count(8), 9);
        refused("sweep(2)", INDEX, () -> h.sweep(2));
        refused("sweep(-1)", INDEX, () -> h.sweep(-1));
        promise = 15;
        due("beat(0)", h.beat(0), 3);
        due("left", h.person(0, 1), 4);
        due("beat(1)", h.beat(1), 0);
        due("gone by beating", h.count(8), 12);
        refused("beat(2)", INDEX, () -> h.beat(2));
        refused("beat(-1)", INDEX, () -> h.beat(-1));
        promise = 16;
        due("tool(1, 100)", h.tool(1, 100), 4);
        due("tool(1, 0)", h.tool(1, 0), 100);
        due("tool(1, 0) again", h.tool(1, 0), 0);
        refused("tool(2, 101)", INDEX, () -> h.tool(2, 101));
        refused("tool(0, 101)", ILLEGAL, () -> h.tool(0, 101));
        refused("tool(0, -1)", ILLEGAL, () -> h.tool(0, -1));
        promise = 17;
        due("keep(0, 0)", h.keep(0, 0), 100);
        due("keep(0, 100)", h.keep(0, 100), 0);
        due("keeps", h.person(0, 2), 100);
        refused("keep(2, 101)", INDEX, () -> h.keep(2, 101));
        refused("keep(0, 101)", ILLEGAL, () -> h.keep(0, 101));
        refused("keep(0, -1)", ILLEGAL, () -> h.keep(0, -1));
        promise = 18;
        due("soak(0, 99)", h.soak(0, 99), 0);
        due("soak(0, 0)", h.soak(0, 0), 99);
        due("soak(0, 5)", h.soak(0, 5), 0);
        due("wet", h.person(0, 3), 5);
        refused("soak(2, 100)", INDEX, () -> h.soak(2, 100));
        refused("soak(0, 100)", ILLEGAL, () -> h.soak(0, 100));
        refused("soak(0, -1)", ILLEGAL, () -> h.soak(0, -1));
        due("acts, refused ones not", h.count(14), 12);
    }

    private static void trialsAndTools() {
        SandHouse h = houseOf(WALK, HALVES);
        promise = 19;
        int[][] tried = {{0, 0, 0, 200, 0}, {2, 50, 150, 50, 0}, {4, 50, 175, 13, 0}, {6, 53, 184, 4, 0}, {100, 53, 186, 1, 0}};
        for (int[] t : tried) {
            for (int what = 0; what < 4; what++) {
                due("trial(" + t[0] + ", " + what + ")", h.trial(t[0], what), t[what + 1]);
            }
        }
        due("nothing stays", h.count(5) + h.count(6) + h.count(13) + h.count(14), 0);
        h.beat(0);
        due("gone ahead of a trial", h.trial(5, 3), 100);
        h.undo();
        refused("trial(101, 9)", ILLEGAL, () -> h.trial(101, 9));
        refused("trial(-1, 0)", ILLEGAL, () -> h.trial(-1, 0));
        refused("trial(0, 4)", ELEMENT, () -> h.trial(0, 4));
        refused("trial(0, -1)", ELEMENT, () -> h.trial(0, -1));
        promise = 20;
        due("worth(1, 50, 2)", h.worth(1, 50, 2), 25);
        due("worth(2, 100, 2)", h.worth(2, 100, 2), 50);
        due("worth(0, 50, 2)", h.worth(0, 50, 2), 0);
        due("worth(0, 50, 6)", h.worth(0, 50, 6), 1);
        h.tool(1, 100);
        due("worth in place of another", h.worth(1, 50, 2), -25);
        h.undo();
        due("no tool stays", h.room(1, 2), 0);
        refused("worth(3, 0, 0)", INDEX, () -> h.worth(3, 0, 0));
        refused("worth(0, 0, 0)", ILLEGAL, () -> h.worth(0, 0, 0));
        refused("worth(0, 101, 0)", ILLEGAL, () -> h.worth(0, 101, 0));
        refused("worth(0, 1, 101)", ILLEGAL, () -> h.worth(0, 1, 101));
        refused("worth(0, 1, -1)", ILLEGAL, () -> h.worth(0, 1, -1));
        due("worth(0, 1, 100)", h.worth(0, 1, 100), 0);
        promise = 21;
        due("stand(50, 2)", h.stand(50, 2, false), 1);
        due("stand(50, 0)", h.stand(50, 0, false), 0);
        SandHouse both = houseOf("room bed 1;room stone 1;person 0;person 1;load 0 100;load 1 1000", "drop 50");
        due("stand by beds", both.stand(50, 1, false), 0);
        due("stand by all", both.stand(50, 1, true), 1);
        both.tool(0, 1);
        due("stand where none is", both.stand(50, 1, false), 1);
        both.tool(1, 1);
        due("stand nowhere", both.stand(50, 1, false), -1);
        refused("stand(0, 1)", ILLEGAL, () -> both.stand(0, 1, true));
        refused("stand(101, 1)", ILLEGAL, () -> both.stand(101, 1, true));
        refused("stand(1, 25)", ILLEGAL, () -> both.stand(1, 25, true));
        refused("stand(1, -1)", ILLEGAL, () -> both.stand(1, -1, true));
        promise = 22;
        due("two(50, 2)", h.two(50, 2), 6);
        due("two(50, 0)", h.two(50, 0), 3);
        due("two(50, 24)", h.two(100, 24), 3);
        h.tool(0, 9);
        due("two of the others", h.two(50, 0), 6);
        h.tool(2, 9);
        due("two of one", h.two(50, 0), -1);
        refused("two(0, 1)", ILLEGAL, () -> h.two(0, 1));
        refused("two(101, 1)", ILLEGAL, () -> h.two(101, 1));
        refused("two(1, 25)", ILLEGAL, () -> h.two(1, 25));
        refused("two(1, -1)", ILLEGAL, () -> h.two(1, -1));
    }

    private static void keepersAndChores() {
        promise = 23;
        SandHouse h = houseOf("room bed 1;person 0;person 0;person 0;load 0 100;load 1 100;load 2 200;tool 0 50;keeps 0 7", "drop 50");
        int[][] limits = {{200, 0}, {199, 1}, {175, 1}, {174, 4}, {150, 4}, {149, 5}, {125, 5}, {124, 7}, {100, 7}, {99, -1}};
        for (int[] l : limits) {
            due("keepers(" + l[0] + ", 1)", h.keepers(l[0], 1), l[1]);
        }
        due("keepers(0, 0)", h.keepers(0, 0), 0);
        due("keeps as it was", h.person(0, 2), 7);
        refused("keepers(-1, 1)", ILLEGAL, () -> h.keepers(-1, 1));
        refused("keepers(1, 25)", ILLEGAL, () -> h.keepers(1, 25));
        refused("keepers(1, -1)", ILLEGAL, () -> h.keepers(1, -1));
        due("keepers(99999, 24)", h.keepers(99999, 24), 0);
        promise = 24;
        SandHouse c = houseOf("room out 9;room stone 2;room bed 3;room carpet 5;person 0;sand 0 0 100;sand 1 0 20;sand 2 0 30;sand 3 0 50");
        int[][] chores = {{100, 0, 0}, {99, 2, 2}, {90, 2, 2}, {89, 3, 4}, {85, 3, 4}, {84, 5, 6}, {75, 5, 6}, {74, 7, 10}, {65, 7, 10},
            {64, 8, 12}, {60, 8, 12}, {59, 10, 14}, {50, 10, 14}, {49, -1, -1}};
        for (int[] l : chores) {
            due("chores(" + l[0] + ", false)", c.chores(l[0], false), l[1]);
            due("chores(" + l[0] + ", true)", c.chores(l[0], true), l[2]);
        }
        due("nothing is swept", c.count(6), 200);
        due("nothing is spent", c.count(12), 0);
        refused("chores(-1)", ILLEGAL, () -> c.chores(-1, true));
    }

    private static void oftenAndWhen() {
        SandHouse h = houseOf(WALK, HALVES);
        promise = 25;
        int[][] often = {{35, 2, 2}, {34, 2, -1}, {50, 3, 3}, {49, 3, 2}, {35, 3, 2}, {34, 3, -1}, {0, 1, 1}, {50, 5, 5}, {50, 6, 6},
            {37, 6, 2}};
        for (int[] o : often) {
            due("often(" + o[0] + ", " + o[1] + ")", h.often(o[0], o[1]), o[2]);
        }
        refused("often(-1, 1)", ILLEGAL, () -> h.often(-1, 1));
        refused("often(1, 0)", ILLEGAL, () -> h.often(1, 0));
        refused("often(1, 25)", ILLEGAL, () -> h.often(1, 25));
        promise = 26;
        due("when(1)", h.when(1), 2);
        due("when(50)", h.when(50), 2);
        due("when(51)", h.when(51), 6);
        due("when(54)", h.when(54), -1);
        due("when(99999)", h.when(99999), -1);
        refused("when(0)", ILLEGAL, () -> h.when(0));
        refused("when(100000)", ILLEGAL, () -> h.when(100000));
        SandHouse at300 = houseOf("room bed 1;person 0;load 0 5", "drop 100 if round > 298");
        due("when in 300", at300.when(5), 300);
        rule(at300, "drop 100 if round > 299");
        due("when in 301", at300.when(5), -1);
        tell(at300, "sand 0 0 5");
        due("when now", at300.when(5), 0);
        promise = 28;
        SandHouse f = houseOf("room out 1;room stone 1;room bed 1;person 0;sand 0 0 50;sand 1 0 9999;sand 2 0 8", "sweep 1");
        int left = 9999;
        for (int i = 0; i < 99; i++) {
            left -= left / 100;
        }
        due("fades at once", f.fades(10007), 0);
        due("fades in 1", f.fades(10006), 1);
        due("fades in 99", f.fades(left + 8), 99);
        due("fades in 100", f.fades(left + 7), -1);
        due("nothing is swept", f.count(8), 0);
        refused("fades(-1)", ILLEGAL, () -> f.fades(-1));
        promise = 33;
        due("peak(1)", h.peak(1), 1);
        due("peak(2)", h.peak(2), 2);
        due("peak(100)", h.peak(100), 2);
        SandHouse less = houseOf("room bed 1;person 0;sand 0 0 100", "pick 50");
        due("peak of less and less", less.peak(3), 3);
        refused("peak(0)", ILLEGAL, () -> h.peak(0));
        refused("peak(101)", ILLEGAL, () -> h.peak(101));
    }

    private static void laterAndTowel() {
        SandHouse h = houseOf(WALK, HALVES);
        promise = 29;
        due("later(1, 3)", h.later(1, 3), 3);
        due("later(1, 2)", h.later(1, 2), 1);
        due("later(2, 2)", h.later(2, 2), 2);
        due("later(0, 3)", h.later(0, 3), 0);
        due("later(1, 0)", h.later(1, 0), 0);
        due("later(0, 4)", h.later(0, 4), 4);
        refused("later(3, 25)", INDEX, () -> h.later(3, 25));
        refused("later(-1, 0)", INDEX, () -> h.later(-1, 0));
        refused("later(0, 25)", ILLEGAL, () -> h.later(0, 25));
        refused("later(0, -1)", ILLEGAL, () -> h.later(0, -1));
        promise = 30;
        due("towel(0, 1, 2)", h.towel(0, 1, 2), 25);
        due("towel(0, 0, 2)", h.towel(0, 0, 2), 0);
        due("towel(0, 2, 2)", h.towel(0, 2, 2), 0);
        due("towel(0, 2, 6)", h.towel(0, 2, 6), 1);
        due("towel(0, 1, 0)", h.towel(0, 1, 0), 0);
        // only one who carries little lets it fall: there the towel is worth less than nothing
        SandHouse odd = houseOf("room stone 1;room bed 1;door 0 1;person 0 1;load 0 100", "drop 60 if load < 60 and bed");
        due("towel below 0", odd.towel(0, 0, 3), -30);
        due("towel in the bed", odd.towel(0, 1, 3), -30);
        refused("towel(1, 9, 9)", INDEX, () -> h.towel(1, 9, 9));
        refused("towel(0, 3, 25)", INDEX, () -> h.towel(0, 3, 25));
        refused("towel(0, 0, 25)", ILLEGAL, () -> h.towel(0, 0, 25));
        refused("towel(0, 0, -1)", ILLEGAL, () -> h.towel(0, 0, -1));
        promise = 31;
        due("towelled(0, 2)", h.towelled(0, 2), 1);
        due("towelled(0, 0)", h.towelled(0, 0), 0);
        tell(h, "person 2 1");
        due("towelled of another habit", h.towelled(1, 5), 1);
        refused("towelled(2, 25)", INDEX, () -> h.towelled(2, 25));
        refused("towelled(0, 25)", ILLEGAL, () -> h.towelled(0, 25));
        refused("towelled(0, -1)", ILLEGAL, () -> h.towelled(0, -1));
        promise = 32;
        // seeds 1 to 8: the first draw of 1 is 38, of 2 8, of 3 47, of 4 17, of 5 55
        SandHouse s = houseOf("room bed 1;person 0;load 0 100;tool 0 50;keeps 0 50", "drop 50");
        due("span least", s.span(1, false), 25);
        due("span most", s.span(1, true), 50);
        due("span of none", s.span(0, true), 0);
        due("the seed stays", s.seed(1), 1);
        s.keep(0, 8);
        due("8 is not below 8", s.span(1, true), 50);
        s.keep(0, 100);
        due("all keep", s.span(1, true), 25);
        refused("span(25)", ILLEGAL, () -> s.span(25, true));
        refused("span(-1)", ILLEGAL, () -> s.span(-1, false));
    }

    private static void owners() {
        SandHouse h = houseOf("room bed 1;room bed 1;room stone 1;person 0;person 1;person 2;sand 0 0 5;sand 0 1 5;sand 0 2 1;sand 1 2 5;"
            + "sand 2 0 900;load 1 3", "pick 20 if room < 1 and person < 1");
        promise = 34;
        due("carries of none", h.carries(0, false), -1);
        due("carries of none, how many", h.carries(0, true), 0);
        h.rounds(1);
        due("carries, the least of several", h.carries(0, false), 0);
        due("carries of how many", h.carries(0, true), 2);
        due("carries one's own", h.carries(1, false), 1);
        h.undo();
        refused("carries(3)", INDEX, () -> h.carries(3, true));
        refused("carries(-1)", INDEX, () -> h.carries(-1, false));
        promise = 35;
        due("whose(0)", h.whose(0), 0);
        due("whose(1)", h.whose(1), 2);
        refused("whose(3)", INDEX, () -> h.whose(3));
        refused("whose(-1)", INDEX, () -> h.whose(-1));
        promise = 36;
        due("share(0, 0)", h.share(0, 0), 4545);
        due("share(0, 2)", h.share(0, 2), 909);
        due("share(1, 2)", h.share(1, 2), 10000);
        due("share(1, 0)", h.share(1, 0), 0);
        refused("share(3, 0)", INDEX, () -> h.share(3, 0));
        refused("share(0, 3)", INDEX, () -> h.share(0, 3));
        promise = 37;
        due("blame", h.blame(), 2);
        promise = 38;
        due("itch(4)", h.itch(4), 3);
        due("itch(5)", h.itch(5), 1);
        due("itch(11)", h.itch(11), 0);
        due("itch(0)", h.itch(0), 3);
        refused("itch(-1)", ILLEGAL, () -> h.itch(-1));
        tell(h, "room stone 1");
        promise = 35;
        due("whose of none", h.whose(3), -1);
        promise = 36;
        due("share of none", h.share(3, 0), 0);
        SandHouse much = houseOf("room bed 1;person 0;person 0;" + times("sand 0 0 9999", 10, ";") + ";sand 0 1 1");
        for (int i = 0; i < 5; i++) {
            tell(much, times("sand 0 0 9999", 14, ";"));
        }
        due("share of many", much.share(0, 0), 9999);
        due("share of one in many", much.share(0, 1), 0);
        due("sand of many", much.sand(0, 0), 80 * 9999);
    }

    private static void waysAndMeetings() {
        promise = 39;
        SandHouse h = houseOf("room out 1;room bed 1;room bed 1;room bed 1;room bed 1;door 0 1;door 2 1;door 3 2;door 0 3;person 0 1;"
            + "person 1 0;person 2;person 1 1 2");
        due("ways(0, 2)", h.ways(0, 2), 2);
        due("ways(2, 0)", h.ways(2, 0), 2);
        due("ways(0, 3)", h.ways(0, 3), 1);
        due("ways(4, 4)", h.ways(4, 4), 0);
        due("ways(0, 4)", h.ways(0, 4), -1);
        refused("ways(5, 0)", INDEX, () -> h.ways(5, 0));
        refused("ways(0, -1)", INDEX, () -> h.ways(0, -1));
        StringBuilder row = new StringBuilder("door 0 1");
        for (int i = 1; i < 11; i++) {
            row.append(";door ").append(i).append(' ').append(i + 1);
        }
        SandHouse far = houseOf(times("room bed 1", 12, ";"));
        tell(far, row.toString());
        due("ways of eleven", far.ways(0, 11), 11);
        promise = 40;
        due("cross never", h.cross(0, 1), -1);
        due("cross now", h.cross(1, 3), 0);
        due("cross later", h.cross(2, 3), 2);
        h.rounds(3);
        due("cross by round", h.cross(2, 3), 5);
        due("cross from now on", h.cross(0, 3), 3);
        refused("cross(4, 4)", INDEX, () -> h.cross(4, 4));
        refused("cross(0, -1)", INDEX, () -> h.cross(0, -1));
        refused("cross(1, 1)", ILLEGAL, () -> h.cross(1, 1));
        // habits of 11 and 12 that meet at one of 132 steps alone: the last one
        SandHouse rare = houseOf("room bed 1;room bed 1;room bed 1;door 0 1;door 0 2;door 1 2;person 0" + " 0 0 0 0 0 0 0 0 0 2;person 1"
            + " 1 1 1 1 1 1 1 1 1 1 2");
        due("cross in 131", rare.cross(0, 1), 131);
        rare.rounds(100);
        rare.rounds(32);
        due("cross in 131 more", rare.cross(0, 1), 263);
    }

    private static void noons() {
        promise = 41;
        SandHouse h = houseOf("room out 1;room bed 1;door 0 1;person 0 1;person 1 0;person 0 0 1");
        due("noon of none told", noon(h, ""), 7);
        due("noon now", noon(h, told(0, 0)), 5);
        due("noon of both", noon(h, told(0, 0) + told(1, 1)), 1);
        due("noon at 9999", noon(h, told(1, 9999)), 1);
        due("noon at 9998", noon(h, told(1, 9998)), 2 + 4);
        h.rounds(1);
        tell(h, "person 1 0 0");
        due("noon of one who came later", noon(h, told(1, 1)), 1 + 8);
        due("noon ahead of that", noon(h, told(0, 0)), 1 + 4 + 8);
        due("noon behind that", noon(h, told(0, 3)), 2 + 4 + 8);
        tape(h, told(2, 0));
        refused("noon in no room", ILLEGAL, h::noon);
        due("the tape is used up", h.end(1), false);
        tape(h, "`" + told(0, 0).substring(1));
        refused("noon below a", ILLEGAL, h::noon);
        tape(h, told(0, 10000));
        refused("noon at 10000", ILLEGAL, h::noon);
        tape(h, told(0, 0) + "a");
        refused("noon of four bytes", ILLEGAL, h::noon);
        tape(h, told(0, 0) + told(0, 65535));
        refused("noon at 65535", ILLEGAL, h::noon);
    }

    private static void logs() {
        SandHouse h = houseOf(WALK + ";person 1 2;load 1 8", HALVES);
        h.rounds(3);
        // 0: 0 in 1, 1 in 2; 1: 0 in 2, 1 in 1; 2: 0 in 1, 1 in 2
        promise = 43;
        int[][] rows = {{2, 1, 2, 1, 1}, {2, 0, 1, 25, 2}, {1, 1, 1, 2, 2}, {1, 0, 2, 50, 1}, {0, 1, 2, 4, 1}, {0, 0, 1, 100, 0}};
        for (int ago = 0; ago < 6; ago++) {
            for (int what = 0; what < 5; what++) {
                due("log(" + ago + ", " + what + ")", h.log(ago, what), rows[ago][what]);
            }
        }
        due("log(6, 0)", h.log(6, 0), -1);
        due("log(-1, 0)", h.log(-1, 0), -1);
        refused("log(0, 5)", ELEMENT, () -> h.log(0, 5));
        refused("log(99, -1)", ELEMENT, () -> h.log(99, -1));
        promise = 42;
        due("heels(0)", h.heels(0), 3);
        due("heels(1)", h.heels(1), 0);
        due("heels(6)", h.heels(6), 3);
        due("heels of no room", h.heels(-8), 3);
        due("heels of all", h.heels(-1), 0);
        h.rounds(1);
        due("heels of one who was out", h.heels(7), 1);
        promise = 44;
        // behind that: 0 in 0 from 1 (1 had one grain, of which no half falls); led from 0: 1, then 2 (row of 2), ..
        int[] led = {0, 1, 2, 1, 0, -1};
        for (int k = 0; k < 6; k++) {
            due("led(0, " + k + ")", h.led(0, k), led[k]);
        }
        due("led far", h.led(0, Integer.MAX_VALUE), -1);
        refused("led(3, -1)", INDEX, () -> h.led(3, -1));
        refused("led(0, -1)", ILLEGAL, () -> h.led(0, -1));
        promise = 43;
        SandHouse long1 = houseOf("room out 1;person 0", "bring 10;drop 100");
        long1.rounds(80);
        due("80 rows", long1.count(13), 80);
        due("the first", long1.log(79, 0), 0);
        long1.rounds(7);
        due("still 80", long1.count(13), 80);
        due("the latest", long1.log(0, 0), 86);
        due("the last of them", long1.log(79, 0), 7);
        due("none behind", long1.log(80, 0), -1);
        promise = 44;
        due("led as far as the log", long1.led(0, 80), 0);
        due("led no farther", long1.led(0, 81), -1);
        promise = 46;
        long1.undo();
        due("the log as it was", long1.log(79, 0), 0);
    }

    private static void undone() {
        promise = 46;
        SandHouse h = houseOf(WALK + ";tool 1 10", HALVES);
        due("undo of nothing", h.undo(), false);
        h.rounds(3);
        int seed = h.seed(5);
        h.sweep(1);
        h.seed(77);
        due("undo of sweeping", h.undo(), true);
        due("the seed ahead of it", h.seed(5), 5);
        due("minutes", h.count(12), 0);
        due("gone as ahead", h.count(8) < 40, true);
        due("undo of rounds", h.undo(), true);
        due("the first seed", h.seed(1), 1);
        due("a draw had been", seed != 1, true);
        due("round", h.count(5), 0);
        due("rows", h.count(13), 0);
        due("load", h.person(0, 1), 200);
        due("undo again", h.undo(), false);
        h.beat(0);
        h.tool(1, 0);
        h.keep(0, 4);
        h.soak(0, 9);
        due("four acts", h.count(14), 4);
        h.undo();
        due("wet", h.person(0, 3), 0);
        h.undo();
        due("keeps", h.person(0, 2), 100);
        h.undo();
        due("tool", h.room(1, 2), 10);
        h.undo();
        due("beaten", h.person(0, 1), 200);
        for (int i = 1; i <= 14; i++) {
            h.keep(0, i);
        }
        due("twelve remembered", h.count(14), 12);
        for (int i = 0; i < 12; i++) {
            due("undo " + i, h.undo(), true);
        }
        due("undo 13", h.undo(), false);
        due("keeps of the second", h.person(0, 2), 2);
        h.keep(0, 2);
        due("an act that changes nothing", h.count(14), 1);
        tape(h, "clog");
        refused("a wrong text", ILLEGAL, h::house);
        refused("an act refused", INDEX, () -> h.beat(4));
        due("still remembered", h.count(14), 1);
        tape(h, "");
        h.house();
        due("a text forgets", h.undo(), false);
        h.keep(0, 2);
        tape(h, "");
        h.law();
        due("a law forgets", h.undo(), false);
        h.keep(0, 2);
        due("no way back", h.back(), false);
        due("and nothing is forgotten", h.count(14), 1);
        h.trial(3, 0);
        h.two(50, 3);
        h.seed(3);
        h.image();
        due("other calls are no acts", h.count(14), 1);
        due("fault stays", h.fault(), -1);
    }

    private static void images() {
        promise = 47;
        SandHouse h = houseOf(WALK);
        due("back to none", h.back(), false);
        h.rounds(1);
        h.seed(12);
        h.image();
        rule(h, HALVES);
        tell(h, "room bed 9;door 2 3;person 3 2;clog 3;tool 0 5");
        h.rounds(4);
        h.sweep(1);
        tape(h, "room");
        refused("a wrong text", ILLEGAL, h::house);
        tape(h, "abc");
        promise = 48;
        due("back", h.back(), true);
        int[] due = {3, 2, 1, 1, -1, 1, 38, 162, 0, 200, 0, 1000, 0, 1, 0};
        for (int i = 0; i < due.length; i++) {
            due("count(" + i + ") behind back", h.count(i), due[i]);
        }
        due("seed", h.seed(12), 12);
        due("no door", h.room(2, 5), 2);
        due("no tool", h.room(0, 2), 0);
        due("no law", h.rule(0, 0, 0), 50);
        due("log", h.log(0, 3), 40);
        due("fault is not gone back", h.fault(), 4);
        due("nor is the tape", h.end(3), true);
        due("nothing to undo", h.undo(), false);
        h.rounds(1);
        h.beat(0);
        due("back again", h.back(), true);
        due("round again", h.count(5), 1);
        due("nothing to undo again", h.count(14), 0);
        h.rounds(2);
        h.image();
        due("undo leaves the image", h.undo(), true);
        due("back to the second", h.back(), true);
        due("its round", h.count(5), 3);
    }

    private static void counts() {
        promise = 49;
        SandHouse h = houseOf("room out 4;room bed 1;room drain 2;door 0 1;door 1 2;person 0 1 2 1;person 1;load 0 500;sand 2 1 100;tool 1 20;"
            + "keeps 0 60;clog 9");
        tape(h, "bring 30 if out;drop 25;pick 10 if here > 9;sweep 40");
        h.law();
        h.rounds(9);
        h.sweep(0);
        h.sweep(2);
        h.beat(0);
        due("rooms", h.count(0), 3);
        due("doors", h.count(1), 2);
        due("people", h.count(2), 2);
        due("texts", h.count(3), 1);
        due("lines", h.count(4), 4);
        due("round", h.count(5), 9);
        due("books", h.count(6) + h.count(7) + h.count(8), h.count(9));
        due("told and brought", h.count(9), 500 + 100 + 2 * 30);
        due("drained", h.count(10), 10);
        due("clog", h.count(11), 9);
        due("minutes", h.count(12), 6);
        due("acts", h.count(14), 4);
        due("count(15)", h.count(15), -1);
        due("count(-1)", h.count(-1), -1);
    }

    private static void fullTape() {
        promise = 6;
        SandHouse h = new SandHouse();
        tape(h, "clog 5" + times(" ", 394, ""));
        due("a text of 400 bytes", h.house(), 1);
        wrongHouse("", times(" ", 399, "") + ";", 399);
        wrongHouse("", "clog 5;" + times(" ", 393, ""), 400);
        wrongHouse("", times("z", 400, ""), 0);
        wrongHouse("", "clog " + times("1", 395, ""), 5);
        wrongHouse("", "room bez 1", 5);
        wrongHouse("", "room be" + "{ 1", 5);
        wrongHouse("", "clo" + "` 1", 0);
        wrongHouse("", "room zout 1", 5);
        wrongHouse("", "room stonet 1", 5);
        wrongHouse("", "room bout 1", 5);
        wrongLaw("drop 1 if " + times("1+", 195, ""), 400);
        tape(h, "drop 1 if 0<" + times("1+", 193, "") + "  ");
        refused("a law of 400 bytes", ILLEGAL, h::law);
        due("its fault", h.fault(), 400);
        tape(h, "drop 1 if 194<" + times("1+", 192, "") + " 2");
        due("a law of 400 bytes that is right", h.law(), 1);
        tell(h, "room bed 1;person 0");
        due("194 is not below 194", h.rule(0, 0, 1), 0);
        rule(h, "drop 1 if 193<" + times("1+", 192, "") + " 2");
        due("193 is below 194", h.rule(0, 0, 1), 1);
        // what stands on the tape behind its end does not count
        tape(h, "clog 12;clog 1");
        h.end(6);
        h.house();
        due("clog of the cut text", h.count(11), 1);
        tape(h, "clogs");
        h.end(4);
        refused("a cut word", ILLEGAL, h::house);
        due("fault of a cut word", h.fault(), 4);
    }

    /** Twelve rooms, twenty doors, eight people: no call may look behind the rows' ends. */
    private static void fullHouse() {
        SandHouse h = houseOf("room out 1;" + times("room bed 2", 10, ";") + ";room drain 3");
        StringBuilder doors = new StringBuilder("door 0 1");
        for (int i = 1; i < 11; i++) {
            doors.append(";door ").append(i).append(' ').append(i + 1);
        }
        tell(h, doors.toString());
        tell(h, times("door 0 11", 9, ";"));
        tell(h, times("person 0 1 2 3 4 5 6 7 8 9 10 11", 8, ";"));
        rule(h, "drop 100;sweep 50");
        for (int person = 0; person < 8; person++) {
            tell(h, "load " + person + " " + (10 + person) + (person > 0 ? "" : ";sand 11 7 100;sand 10 7 4"));
        }
        promise = 49;
        int[] due = {12, 20, 8, 12, 2, 0, 104, 108, 0, 212, 0, 1000, 0, 0, 0};
        for (int i = 0; i < due.length; i++) {
            due("count(" + i + ") of the full house", h.count(i), due[i]);
        }
        promise = 7;
        due("all are out", h.room(0, 4), 255);
        due("doors of the last", h.room(11, 5), 1 | 1 << 10);
        promise = 9;
        due("roams of the last", h.person(7, 6), 4095);
        promise = 19;
        due("beds in trial", h.trial(1, 0), 112);
        due("inside in trial", h.trial(1, 1), 202);
        due("loads in trial", h.trial(1, 2), 0);
        due("gone in trial", h.trial(1, 3), 10);
        promise = 21;
        due("stand in the full house", h.stand(100, 1, true), 1);
        promise = 22;
        due("two in the full house", h.two(50, 1), 3);
        promise = 23;
        h.tool(1, 100);
        due("keepers of all", h.keepers(4, 1), 255);
        due("keepers of the heaviest", h.keepers(95, 1), 1 << 7);
        h.undo();
        promise = 24;
        due("chores of the full house", h.chores(52, true), 1 << 10 | 1 << 11);
        due("chores but one", h.chores(54, false), 3);
        promise = 25;
        due("often in the full house", h.often(112, 24), 24);
        promise = 26;
        due("when in the full house", h.when(112), 1);
        promise = 28;
        due("fades in the full house", h.fades(26), 2);
        promise = 29;
        due("later in the full house", h.later(11, 0), 0);
        promise = 30;
        due("towel in the full house", h.towel(7, 11, 2), 0);
        promise = 31;
        due("towelled in the full house", h.towelled(7, 24), 0);
        promise = 37;
        due("blame in the full house", h.blame(), 7);
        promise = 38;
        due("itch in the full house", h.itch(3), 1 << 10);
        promise = 39;
        due("ways in the full house", h.ways(11, 5), 6);
        promise = 42;
        h.rounds(1);
        due("heels in the full house", h.heels(2), 255);
        due("heels in the last room", h.heels(1 << 11), 0);
        promise = 34;
        due("carries in the full house", h.carries(7, true), 0);
        promise = 41;
        due("noon in the full house", noon(h, told(11, 11)), 255);
        promise = 14;
        due("sweep in the full house", h.sweep(11), 45);
        promise = 15;
        due("beat in the full house", h.beat(7), 0);
        promise = 13;
        h.rounds(100);
        due("books of the full house", h.count(6) + h.count(7) + h.count(8), h.count(9));
    }

    private static void leastNumbers() {
        SandHouse h = houseOf("room bed 1;person 0;person 0;load 0 0;sand 0 0 0;wet 0 0;sand 0 1 1", "sweep 100 if not wet and load < 1");
        promise = 4;
        due("told nothing", h.count(9), 1);
        due("not wet", h.person(0, 3), 0);
        promise = 36;
        due("share of one grain", h.share(0, 1), 10000);
        due("share in one grain", h.share(0, 0), 0);
        promise = 37;
        due("blame of one grain", h.blame(), 1);
        promise = 14;
        h.soak(0, 3);
        tell(h, "load 0 5");
        due("sweeping knows no wet one", h.room(0, 6), 100);
        due("a grain is swept", h.sweep(0), 1);
        promise = 20;
        due("worth of no round", h.worth(0, 1, 0), 0);
        promise = 21;
        due("stand of the least part", h.stand(1, 0, true), 0);
        due("stand of the greatest part", h.stand(100, 24, true), 0);
        promise = 22;
        due("two of the least part", h.two(1, 0), -1);
        tell(h, "room bed 1");
        due("two of two", h.two(1, 0), 3);
        h.tool(0, 1);
        due("two of one without", h.two(1, 0), -1);
        h.undo();
        promise = 24;
        due("chores of 0", h.chores(0, true), 0);
        promise = 28;
        due("fades to 0", h.fades(0), 0);
        promise = 31;
        refused("towelled(-1, 0)", INDEX, () -> h.towelled(-1, 0));
        promise = 40;
        refused("cross(-1, 0)", INDEX, () -> h.cross(-1, 0));
        refused("cross(2, 2)", INDEX, () -> h.cross(2, 2));
        promise = 43;
        h.rounds(1);
        due("nothing fell: no row", h.count(13), 0);
        promise = 13;
        SandHouse least = houseOf("room bed 1;person 0;load 0 200;tool 0 1", "");
        least.rounds(1);
        due("a tool of 1 takes", least.count(8), 2);
        promise = 32;
        // the third draw of seed 8 alone of the eight is 94; the first of seed 9 is 72, of the eight at most 64
        SandHouse eighth = houseOf("room stone 1;room bed 1;person 0;person 0;person 1;load 2 100;tool 0 9;tool 1 50;keeps 2 94", "drop 50");
        due("span by the eighth", eighth.span(1, true), 50);
        due("span by others", eighth.span(1, false), 25);
        // the third draw of seed 1 alone is below 14
        eighth.keep(2, 14);
        due("span by the first", eighth.span(1, false), 25);
        due("span by all others", eighth.span(1, true), 50);
        SandHouse ninth = houseOf("room bed 1;person 0;load 0 100;tool 0 50;keeps 0 65", "drop 50");
        due("no ninth", ninth.span(1, true), 25);
        promise = 24;
        SandHouse first = houseOf("room bed 3;room bed 4;person 0;sand 0 0 10;sand 1 0 10");
        due("chores in the first room", first.chores(15, true), 1);
        due("minutes of the first room", first.chores(15, false), 3);
        promise = 28;
        due("fades in the first room too", first.fades(10), 1);
        promise = 30;
        refused("towel(1, 0, 0)", INDEX, () -> first.towel(1, 0, 0));
        refused("towel(-1, 0, 0)", INDEX, () -> first.towel(-1, 0, 0));
        promise = 29;
        // let fall one step behind another: sweeping between, then more falls
        SandHouse again = houseOf("room bed 1;person 0;load 0 1000", "drop 10;sweep 50 if here < 200");
        due("later while it can be swept", again.later(0, 4), 2);
        promise = 37;
        SandHouse beds = houseOf("room bed 1;room stone 1;room bed 1;person 1;person 1;sand 0 0 3;sand 2 0 3;sand 2 1 5;sand 0 1 1;sand 1 1 99");
        due("blame of both alike", beds.blame(), 0);
        tell(beds, "sand 0 1 1");
        due("blame of one more", beds.blame(), 1);
    }
}
