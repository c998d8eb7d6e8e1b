/** The sentences on whose sand it is, on ways, THE LOG, UNDONE and THE IMAGE, at their bounds and on both sides (promises 34 to 49). */
public final class MemoryEdgesTest extends Due {
    public static void main(String[] args) {
        carries();
        whose();
        share();
        blame();
        itch();
        asAllIsNow();
        ways();
        cross();
        noon();
        noonTape();
        rowsOfTheLog();
        eightyRows();
        heels();
        led();
        undone();
        rowsUndone();
        twelveActs();
        forgotten();
        image();
        imageOfAll();
        lastOfAll();
        counts();
        finish();
    }

    private static void carries() {
        sentence(34, "the one whose grains are most in a LOAD (of several the least; none without); of how many PEOPLE there are some");
        SandHouse h = houseOf("room stone 1;room bed 1;person 0;person 1;person 1;sand 0 1 5;sand 0 2 6", "pick 100 if room < 1");
        due("whose, without", h.carries(0, false), -1);
        due("of how many, without", h.carries(0, true), 0);
        h.rounds(1);
        due("most of 2", h.carries(0, false), 2);
        due("of two", h.carries(0, true), 2);
        tell(h, "load 0 5");
        due("still 2", h.carries(0, false), 2);
        due("of three", h.carries(0, true), 3);
        tell(h, "load 0 1");
        due("alike: the least", h.carries(0, false), 0);
        due("another one's, without", h.carries(1, false), -1);
        due("another one's, of none", h.carries(1, true), 0);
        String before = state(h);
        for (int none : new int[] {-1, 3, LEAST, GREATEST}) {
            refused("carries(" + none + ", true)", INDEX, () -> h.carries(none, true));
            refused("carries(" + none + ", false)", INDEX, () -> h.carries(none, false));
        }
        same("all behind refusals", before, state(h));
        SandHouse one = houseOf("room stone 1;person 0;person 0;load 1 1");
        due("one grain", one.carries(1, false), 1);
        due("of one", one.carries(1, true), 1);
        SandHouse eight = houseOf("room stone 1;room bed 1;person 0;" + times("person 1", 7, ";"), "pick 100 if room < 1");
        tell(eight, "load 0 1;sand 0 1 1;sand 0 2 1;sand 0 3 1;sand 0 4 1;sand 0 5 1;sand 0 6 1;sand 0 7 2");
        eight.rounds(1);
        due("of eight", eight.carries(0, true), 8);
        due("the eighth", eight.carries(0, false), 7);
    }

    private static void whose() {
        sentence(35, "the one who has most grains there (of several the least; none without)");
        SandHouse h = houseOf("room out 1;room stone 1;person 0;person 0;person 0;sand 1 2 1");
        due("without", h.whose(0), -1);
        due("one grain", h.whose(1), 2);
        tell(h, "sand 1 1 1");
        due("alike: the least", h.whose(1), 1);
        tell(h, "sand 1 2 1");
        due("one more", h.whose(1), 2);
        due("the other ROOM still without", h.whose(0), -1);
        String before = state(h);
        for (int none : new int[] {-1, 2, LEAST, GREATEST}) {
            refused("whose(" + none + ")", INDEX, () -> h.whose(none));
        }
        same("all behind refusals", before, state(h));
    }

    private static void share() {
        sentence(36, "of grains there one's own in ten-thousandths, rounded down (0 without)");
        SandHouse h = houseOf("room out 1;room stone 1;person 0;person 0;sand 0 0 1");
        due("without", h.share(1, 0), 0);
        due("all of one grain", h.share(0, 0), 10000);
        due("none of one grain", h.share(0, 1), 0);
        tell(h, "sand 0 1 2");
        due("a third", h.share(0, 0), 3333);
        due("two thirds", h.share(0, 1), 6666);
        SandHouse small = houseOf("room out 1;person 0;person 0;sand 0 0 1;sand 0 1 9999");
        due("one of 10000", small.share(0, 0), 1);
        due("9999 of 10000", small.share(0, 1), 9999);
        tell(small, "sand 0 1 1");
        due("one of 10001", small.share(0, 0), 0);
        due("10000 of 10001", small.share(0, 1), 9999);
        SandHouse many = houseOf("room out 1;person 0;person 0;" + times("sand 0 0 9999", 11, ";"));
        for (int i = 0; i < 11; i++) {
            tell(many, times("sand 0 0 9999", 14, ";"));
        }
        due("all of 165 times 9999", many.share(0, 0), 10000);
        due("as many are there", many.sand(0, 0), 165 * 9999);
        String before = state(h);
        for (int none : new int[] {-1, 2, LEAST, GREATEST}) {
            refused("share(" + none + ", 0)", INDEX, () -> h.share(none, 0));
            refused("share(0, " + none + ")", INDEX, () -> h.share(0, none));
        }
        same("all behind refusals", before, state(h));
    }

    private static void blame() {
        sentence(37, "whose grains are most in all beds; NONE without grains in beds");
        SandHouse h = houseOf("room out 1;room bed 1;room stone 1;room bed 1;room drain 1;room carpet 1;person 0;person 0;person 0;sand 0 0 99;sand 2 0 99;"
            + "sand 4 0 99;sand 5 0 99");
        due("without", h.blame(), -1);
        tell(h, "sand 3 2 1");
        due("one grain", h.blame(), 2);
        tell(h, "sand 1 1 1");
        due("alike: the least", h.blame(), 1);
        tell(h, "sand 1 2 1");
        due("in both beds", h.blame(), 2);
        tell(h, "sand 1 1 1;sand 1 0 1;sand 3 0 2");
        due("0 has three in both", h.blame(), 0);
        due("no bed", houseOf("room out 1;person 0;sand 0 0 5").blame(), -1);
        SandHouse eight = houseOf("room bed 1;room stone 1;" + times("person 0", 8, ";"));
        tell(eight, "sand 1 0 99;sand 0 7 1");
        due("the eighth", eight.blame(), 7);
        SandHouse full = houseOf(times("room bed 1", 12, ";"));
        tell(full, times("person 0", 8, ";") + ";sand 11 7 2;sand 0 0 1;sand 5 0 1");
        due("of eight in twelve beds the least", full.blame(), 0);
        tell(full, "sand 10 7 1");
        due("of eight in twelve beds the eighth", full.blame(), 7);
    }

    private static void itch() {
        sentence(38, "ITCH, as bits. IllegalArgumentException: the number is below 0");
        range("itch", 0, GREATEST, ILLEGAL, () -> houseOf("room bed 1;person 0;sand 0 0 5"), (h, n) -> h.itch(n));
        sentence(38, "beds with more than a told number of grains");
        SandHouse h = houseOf("room bed 1;room stone 1;room bed 1;room bed 1;person 0;person 0;sand 0 0 4;sand 0 1 1;sand 1 0 99;sand 2 0 1");
        int[][] due = {{0, 5}, {1, 1}, {4, 1}, {5, 0}, {6, 0}, {GREATEST, 0}};
        for (int[] d : due) {
            due("itch(" + d[0] + ")", h.itch(d[0]), d[1]);
        }
        SandHouse last = houseOf(times("room bed 1", 12, ";") + ";person 0;sand 11 0 1");
        due("the twelfth", last.itch(0), 1 << 11);
    }

    private static void asAllIsNow() {
        sentence(35, "WHOSE, SHARE, BLAME, ITCH as all is now, not as it was told");
        SandHouse h = houseOf("room out 1;room stone 4;room bed 3;door 0 1;door 1 2;person 0 1 2 1;person 0;load 0 160;sand 1 1 240", "drop 50;sweep 50");
        due("whose in the bed at first", h.whose(2), -1);
        due("share on stone at first", h.share(1, 0), 0);
        due("blame at first", h.blame(), -1);
        due("itch at first", h.itch(39), 0);
        h.rounds(2);
        // 80 on stone, 40 in the bed
        due("whose in the bed", h.whose(2), 0);
        due("whose on stone", h.whose(1), 1);
        due("share on stone", h.share(1, 0), 2500);
        due("share of the other on stone", h.share(1, 1), 7500);
        due("blame", h.blame(), 0);
        due("itch by 39", h.itch(39), 4);
        due("itch by 40", h.itch(40), 0);
        h.sweep(2);
        due("itch by 20, swept", h.itch(20), 0);
        due("itch by 19, swept", h.itch(19), 4);
        h.undo();
        due("itch by 39, undone", h.itch(39), 4);
    }

    private static void ways() {
        sentence(39, "the fewest DOORS; none");
        SandHouse h = houseOf("room out 1;room stone 1;room bed 1;room bed 1;room bed 1;door 0 1;door 1 2;door 2 3;door 3 0;door 0 1");
        int[][] due = {{0, 0, 0}, {0, 1, 1}, {1, 0, 1}, {0, 2, 2}, {2, 0, 2}, {0, 3, 1}, {1, 3, 2}, {4, 4, 0}, {0, 4, -1}, {4, 0, -1}};
        for (int[] d : due) {
            due("ways(" + d[0] + ", " + d[1] + ")", h.ways(d[0], d[1]), d[2]);
        }
        tell(h, "door 4 1");
        due("a DOOR more", h.ways(4, 3), 3);
        for (int none : new int[] {-1, 5, LEAST, GREATEST}) {
            refusedWhole("ways(" + none + ", 0)", INDEX, h, () -> h.ways(none, 0));
            refused("ways(0, " + none + ")", INDEX, () -> h.ways(0, none));
            refused("ways(" + none + ", " + none + ")", INDEX, () -> h.ways(none, none));
        }
        SandHouse far = houseOf(times("room bed 1", 12, ";"));
        tell(far, "door 0 1;door 1 2;door 2 3;door 3 4;door 4 5;door 5 6;door 6 7;door 7 8;door 8 9;door 9 10");
        due("as far as ten", far.ways(0, 10), 10);
        due("not to the twelfth", far.ways(0, 11), -1);
        tell(far, "door 10 11");
        due("as far as eleven", far.ways(11, 0), 11);
    }

    private static void cross() {
        sentence(40, "IllegalArgumentException: both are one");
        SandHouse h = houseOf("room out 1;room bed 1;door 0 1;person 0 1;person 1 0;person 0 0 1", "");
        String before = state(h);
        for (int person = 0; person < 3; person++) {
            int one = person;
            refused("cross(" + one + ", " + one + ")", ILLEGAL, () -> h.cross(one, one));
        }
        for (int none : new int[] {-1, 3, LEAST, GREATEST}) {
            refused("cross(" + none + ", 0)", INDEX, () -> h.cross(none, 0));
            refused("cross(0, " + none + ")", INDEX, () -> h.cross(0, none));
            refused("cross(" + none + ", " + none + ")", INDEX, () -> h.cross(none, none));
        }
        same("all behind refusals", before, state(h));
        sentence(40, "the first ROUND (from now's on, within 144 more) at which both are in one ROOM; none");
        due("never", h.cross(0, 1), -1);
        due("never the other way", h.cross(1, 0), -1);
        due("now", h.cross(0, 2), 0);
        due("next", h.cross(1, 2), 1);
        h.rounds(2);
        // behind two ROUNDS: 0 in 0, 1 in 1, 2 in 1
        due("now's", h.cross(1, 2), 2);
        due("from now's on", h.cross(0, 2), 4);
        h.rounds(100);
        due("behind 102", h.cross(0, 2), 102);
        // 11 and 12 ROOMS: all 132 places of both come once; they meet at the last one alone
        SandHouse rare = houseOf("room bed 1;room bed 1;room bed 1;door 0 1;door 0 2;door 1 2;person 0 0 0 0 0 0 0 0 0 0 2;person 1 1 1 1 1 1 1 1 1 1 1 2", "");
        due("131 more", rare.cross(0, 1), 131);
        rare.rounds(1);
        due("130 more", rare.cross(0, 1), 131);
        rare.rounds(100);
        rare.rounds(30);
        due("now at last", rare.cross(1, 0), 131);
        rare.rounds(1);
        due("131 more again", rare.cross(1, 0), 263);
    }

    private static void noon() {
        sentence(41, "all who, by HABIT as told now, are there at each of these (as if ROUND had always gone on as now), as bits");
        SandHouse h = houseOf("room out 1;room bed 1;door 0 1;person 0 1;person 1 0 0;person 0", "");
        due("ROUND 0", noon(h, told(0, 0)), 5);
        due("ROUND 0 in the bed", noon(h, told(1, 0)), 2);
        due("ROUND 9999", noon(h, told(1, 9999)), 1 | 2);
        due("ROUND 9999 out", noon(h, told(0, 9999)), 4);
        due("ROUND 255", noon(h, told(1, 255)), 1 | 2);
        due("ROUND 256", noon(h, told(0, 256)), 1 | 2 | 4);
        due("one in two ROOMS at once", noon(h, told(0, 7) + told(1, 7)), 0);
        due("told twice", noon(h, told(0, 0) + told(0, 0)), 5);
        h.rounds(5);
        due("the same behind five ROUNDS", noon(h, told(0, 0)), 5);
        due("now", noon(h, told(1, 5)), h.room(1, 4));
        tell(h, "person 1 0");
        // told at ROUND 5 in its first ROOM: at 4 in the second
        due("the new one at 5", noon(h, told(1, 5)) >> 3, 1);
        due("the new one at 4", noon(h, told(1, 4)) >> 3, 0);
        due("the new one at 0", noon(h, told(0, 0)), 5 | 8);
        sentence(41, "none may be told");
        due("none", noon(h, ""), 15);
        due("of nobody", new SandHouse().noon(), 0);
    }

    private static void wrongNoon(String bytes) {
        SandHouse h = houseOf("room out 1;room bed 1;person 0");
        tape(h, "clog x");
        refused("a wrong text", ILLEGAL, h::house);
        tape(h, bytes);
        refusedWhole("noon of " + bytes.length() + " bytes", ILLEGAL, h, h::noon);
        due("the TAPE is used up", h.end(1), false);
        due("fault as it was", h.fault(), 5);
    }

    private static void noonTape() {
        sentence(41, "Uses the TAPE up. IllegalArgumentException: the TAPE is not that");
        wrongNoon("a");
        wrongNoon("a" + (char) 0);
        wrongNoon(told(0, 0) + "a");
        wrongNoon(told(0, 0) + "a" + (char) 0);
        wrongNoon(told(-1, 0));
        wrongNoon(told(2, 0));
        wrongNoon("A" + (char) 0 + (char) 0);
        wrongNoon((char) 0 + told(0, 0).substring(1));
        wrongNoon((char) 255 + told(0, 0).substring(1));
        wrongNoon(told(0, 10000));
        wrongNoon(told(0, 32768));
        wrongNoon(told(0, 65535));
        wrongNoon(told(0, 0) + told(2, 0));
        wrongNoon(told(0, 0) + told(1, 10000));
        wrongNoon(told(2, 0) + told(0, 0));
        SandHouse h = houseOf("room out 1;room bed 1;person 0");
        due("the last ROOM, the last ROUND", noon(h, told(1, 9999)), 0);
        due("the first ROOM", noon(h, told(0, 9999)), 1);
        due("the TAPE is used up", h.end(1), false);
        due("133 of them", noon(h, times(told(0, 9), 133, "")), 1);
        due("132 of them and another", noon(h, times(told(0, 9), 132, "") + told(1, 9)), 0);
        wrongNoon(times(told(0, 9), 132, "") + told(2, 9));
        wrongNoon(times(told(0, 9), 133, "") + "a");
        sentence(41, "of no ROOM none can be told");
        SandHouse none = new SandHouse();
        tape(none, told(0, 0));
        refused("noon in no house", ILLEGAL, none::noon);
    }

    private static void rowsOfTheLog() {
        sentence(43, "THE LOG so many ago (0 the latest); NONE without. NoSuchElementException: another what");
        SandHouse h = houseOf("room out 1;room stone 1;room bed 1;door 0 1;door 1 2;person 2 1 0 1;person 1;load 0 64;load 1 3", "drop 50");
        h.rounds(2);
        int[][] due = {{1, 1, 1, 1, 1}, {1, 0, 0, 16, 1}, {0, 1, 1, 1, 1}, {0, 0, 1, 32, 2}};
        due("rows", h.count(13), 4);
        for (int ago = 0; ago < 4; ago++) {
            for (int what = 0; what < 5; what++) {
                due("log(" + ago + ", " + what + ")", h.log(ago, what), due[ago][what]);
            }
        }
        for (int what = 0; what < 5; what++) {
            for (int ago : new int[] {4, -1, 80, LEAST, GREATEST}) {
                due("log(" + ago + ", " + what + ")", h.log(ago, what), -1);
            }
        }
        String before = state(h);
        for (int what : new int[] {-1, 5, LEAST, GREATEST}) {
            refused("log(0, " + what + ")", ELEMENT, () -> h.log(0, what));
            refused("log(4, " + what + ")", ELEMENT, () -> h.log(4, what));
            refused("log(-1, " + what + ")", ELEMENT, () -> h.log(-1, what));
        }
        same("all behind refusals", before, state(h));
        sentence(43, "times that grains fell by (d) (above 0)");
        h.rounds(1);
        due("0 let 8 fall, 1 none", h.count(13), 5);
        due("the latest is of 0", h.log(0, 1), 0);
        sentence(43, "from which ROOM (the one before in the HABIT)");
        SandHouse from = houseOf("room out 1;room bed 1;door 0 1;person 0 1 1;load 0 9999", "drop 10");
        from.rounds(4);
        int[] froms = {0, 1, 1, 0};
        for (int ago = 0; ago < 4; ago++) {
            due("from at " + (3 - ago), from.log(ago, 4), froms[ago]);
        }
        sentence(43, "a TRIAL writes no row; an act, a text leave them");
        from.trial(9, 0);
        from.sweep(0);
        from.beat(0);
        tell(from, "clog 5");
        due("rows", from.count(13), 4);
    }

    private static void eightyRows() {
        sentence(43, "of the latest 80 times");
        SandHouse h = houseOf("room out 1;person 0", "bring 10;drop 100");
        int[] sizes = {79, 80, 81, 82, 160, 161, 200};
        int now = 0;
        for (int size : sizes) {
            while (now < size) {
                int more = Math.min(size - now, 50);
                h.rounds(more);
                now += more;
            }
            int rows = Math.min(size, 80);
            due("rows behind " + size, h.count(13), rows);
            due("the latest behind " + size, h.log(0, 0), size - 1);
            due("the first behind " + size, h.log(rows - 1, 0), size - rows);
            due("none ahead behind " + size, h.log(rows, 0), -1);
        }
    }

    private static void heels() {
        sentence(42, "who let grains fall in all of these by THE LOG, as bits");
        SandHouse h = houseOf("room out 1;room stone 1;room bed 1;room bed 1;door 0 1;door 1 2;person 0 1 2 1;person 1 2;person 3;load 0 6400;load 1 6400;load 2 640",
            "drop 50");
        due("of none ahead of any", h.heels(0), 7);
        due("of one ahead of any", h.heels(1), 0);
        h.rounds(1);
        due("stone", h.heels(2), 1);
        due("bed", h.heels(4), 2);
        due("stone and bed", h.heels(6), 0);
        due("the other bed", h.heels(8), 4);
        h.rounds(1);
        due("stone behind 2", h.heels(2), 3);
        due("stone and bed behind 2", h.heels(6), 3);
        due("stone and the other bed", h.heels(10), 0);
        due("out: nobody", h.heels(1), 0);
        due("out and stone: nobody", h.heels(3), 0);
        h.rounds(2);
        due("out behind 4", h.heels(1), 1);
        due("out, stone and bed", h.heels(7), 1);
        due("all", h.heels(15), 0);
        sentence(42, "Sets are bits; of none they count for nothing");
        due("none", h.heels(0), 7);
        due("a ROOM that is none", h.heels(16), 7);
        due("ROOMS that are none", h.heels(-16), 7);
        due("the sign alone", h.heels(LEAST), 7);
        due("bed and ROOMS that are none", h.heels(-16 | 4), 3);
        due("all bits", h.heels(-1), 0);
        SandHouse full = houseOf(times("room bed 1", 12, ";") + ";person 11;load 0 100");
        full.rounds(1);
        due("the twelfth", full.heels(1 << 11), 1);
        due("the thirteenth", full.heels(1 << 12), 1);
        sentence(42, "by THE LOG: what is 80 rows ago does not count");
        SandHouse ago = houseOf("room out 1;room bed 1;person 0;person 1;load 1 1", "bring 10 if out;drop 100");
        ago.rounds(1);
        due("in the bed", ago.heels(2), 2);
        ago.rounds(78);
        due("80 rows", ago.count(13), 80);
        due("in the bed, the second of 80", ago.heels(2), 2);
        ago.rounds(1);
        due("in the bed, the second of 81: the latest 80 hold it", ago.heels(2), 2);
        ago.rounds(1);
        due("in the bed, not any more", ago.heels(2), 0);
    }

    private static void led() {
        sentence(44, "the k-th ROOM (0: itself); NONE. IllegalArgumentException: k is below 0");
        range("led", 0, GREATEST, ILLEGAL, () -> houseOf("room out 1;person 0"), (h, n) -> h.led(0, n));
        for (int none : new int[] {-1, 1, LEAST, GREATEST}) {
            SandHouse h = houseOf("room out 1;person 0");
            refusedWhole("led(" + none + ", -1)", INDEX, h, () -> h.led(none, -1));
        }
        sentence(44, "by the latest row of THE LOG with it: the ROOM from which that one came; then the latest row ahead of that one");
        SandHouse h = houseOf("room out 1;room stone 1;room bed 1;room bed 1;door 0 1;door 1 2;door 0 3;person 0 1 2 1;person 3 0;load 0 9999;load 1 4", "drop 50");
        due("itself without a row", h.led(2, 0), 2);
        due("none without a row", h.led(2, 1), -1);
        h.rounds(2);
        // rows: 0 in 1 from 0, 1 in 0 from 3 (2 grains), 0 in 2 from 1, 1 in 3 from 0 (1 grain)
        due("rows", h.count(13), 4);
        int[][] led = {{2, 1, 0, -1}, {1, 0, -1, -1}, {0, 3, -1, -1}, {3, 0, 3, -1}};
        int[] rooms = {2, 1, 0, 3};
        for (int i = 0; i < rooms.length; i++) {
            for (int k = 0; k < 4; k++) {
                due("led(" + rooms[i] + ", " + k + ")", h.led(rooms[i], k), led[i][k]);
            }
            due("led far", h.led(rooms[i], GREATEST), -1);
        }
        SandHouse stays = houseOf("room out 1;person 0", "bring 10;drop 100");
        stays.rounds(100);
        for (int k : new int[] {0, 1, 79, 80}) {
            due("led(0, " + k + ")", stays.led(0, k), 0);
        }
        due("no farther than THE LOG", stays.led(0, 81), -1);
    }

    private static SandHouse busy() {
        SandHouse h = houseOf("room out 3;room bed 2;door 0 1;person 0 1;person 1;load 0 300;sand 1 1 90;tool 1 20;keeps 1 40;wet 1 3;room drain 1;sand 2 0 99",
            "bring 5;drop 30;pick 8;sweep 50");
        h.rounds(2);
        return h;
    }

    private static void undoneAct(String act, boolean changes, Ask ask) {
        SandHouse h = busy();
        String before = state(h);
        ask.of(h, 0);
        due(act + " is remembered", h.count(14), 2);
        if (changes) {
            due(act + " changes something", before.equals(state(h)), false);
        }
        due("undo of " + act, h.undo(), true);
        same("all as ahead of " + act, before, state(h));
    }

    private static void undone() {
        sentence(46, "the latest ACT, or ROUNDS of one call: all is as ahead of it");
        undoneAct("sweep", true, (h, n) -> h.sweep(1));
        undoneAct("beat", true, (h, n) -> h.beat(0));
        undoneAct("tool", true, (h, n) -> h.tool(1, 77));
        undoneAct("tool taken away", true, (h, n) -> h.tool(1, 0));
        undoneAct("keep", true, (h, n) -> h.keep(1, 0));
        undoneAct("soak", true, (h, n) -> h.soak(0, 9));
        undoneAct("one ROUND", true, (h, n) -> h.rounds(1));
        undoneAct("a hundred ROUNDS", true, (h, n) -> h.rounds(100));
        undoneAct("keep of the same", false, (h, n) -> h.keep(1, 40));
        undoneAct("a SEED told behind an act", true, (h, n) -> h.beat(0) + h.seed(4711));
        SandHouse h = busy();
        h.sweep(1);
        String before = state(h);
        h.beat(0);
        h.tool(1, 77);
        h.keep(1, 0);
        h.soak(0, 9);
        h.rounds(100);
        for (int i = 6; i >= 2; i--) {
            due("undo from " + (i + 1) + " acts", h.undo(), true);
            due("acts left", h.count(14), i);
        }
        same("all as ahead of five acts", before, state(h));
        due("undo of sweeping", h.undo(), true);
        due("undo of the first ROUNDS", h.undo(), true);
        due("ROUND 0", h.count(5), 0);
        due("rows 0", h.count(13), 0);
        due("SEED 1", h.seed(1), 1);
        due("no more", h.undo(), false);
        sentence(46, "but for the TAPE, fault(), THE IMAGE");
        h.keep(0, 1);
        tape(h, "x");
        refused("a wrong text", ILLEGAL, h::law);
        h.feed(0, 0, 0, 0, 0);
        h.image();
        due("undo", h.undo(), true);
        due("fault", h.fault(), 0);
        due("the TAPE", h.end(20), true);
        due("back", h.back(), true);
        due("THE IMAGE is of behind the act", h.person(0, 2), 1);
    }

    /** Of a house in which grains fell in each ROUND ahead of this one, and in none since. */
    private static void rowsOf(SandHouse h, String when, int round) {
        due("rows " + when, h.count(13), Math.min(round, 80));
        for (int ago = 0; ago <= 80; ago++) {
            due("row " + ago + " " + when, h.log(ago, 0), ago < 80 && ago < round ? round - 1 - ago : -1);
        }
    }

    private static void rowsUndone() {
        sentence(46, "all is as ahead of it: THE LOG, too, however many of its 80 rows were written anew");
        for (int ahead : new int[] {0, 1, 40, 79, 80, 81, 100}) {
            SandHouse h = houseOf("room out 1;person 0", "bring 10;drop 100");
            if (ahead > 0) {
                h.rounds(ahead);
            }
            h.image();
            h.rounds(100);
            h.undo();
            rowsOf(h, "undone behind " + ahead, ahead);
            h.rounds(79);
            rowsOf(h, "gone on from " + ahead, ahead + 79);
            h.back();
            rowsOf(h, "of THE IMAGE behind " + ahead, ahead);
        }
        SandHouse h = houseOf("room out 1;person 0", "bring 10;drop 100");
        h.rounds(90);
        for (int i = 0; i < 12; i++) {
            h.rounds(30);
        }
        for (int i = 11; i >= 0; i--) {
            h.undo();
            due("the latest row undone to " + i, h.log(0, 0), 89 + 30 * i);
            due("the first row undone to " + i, h.log(79, 0), 10 + 30 * i);
        }
        rowsOf(h, "behind twelve undone", 90);
    }

    private static void twelveActs() {
        sentence(46, "12 are remembered");
        for (int acts : new int[] {11, 12, 13, 24, 25}) {
            SandHouse h = houseOf("room out 1;person 0");
            for (int i = 1; i <= acts; i++) {
                h.keep(0, i);
                due("acts behind " + i, h.count(14), Math.min(i, 12));
            }
            int left = Math.min(acts, 12);
            for (int i = 1; i <= left; i++) {
                due("undo " + i + " of " + acts, h.undo(), true);
                due("KEEPS behind undo " + i + " of " + acts, h.person(0, 2), acts - i == 0 ? 100 : acts - i);
                due("acts left behind undo " + i, h.count(14), left - i);
            }
            due("no more of " + acts, h.undo(), false);
            due("KEEPS behind all of " + acts, h.person(0, 2), acts > 12 ? acts - 12 : 100);
        }
        sentence(46, "not undone yet");
        SandHouse h = houseOf("room out 1;person 0");
        for (int i = 1; i <= 12; i++) {
            h.keep(0, i);
        }
        h.undo();
        h.undo();
        h.keep(0, 50);
        due("eleven", h.count(14), 11);
        h.undo();
        due("the tenth", h.person(0, 2), 10);
        h.keep(0, 60);
        h.keep(0, 61);
        h.keep(0, 62);
        due("twelve", h.count(14), 12);
        for (int i = 0; i < 12; i++) {
            h.undo();
        }
        due("the first", h.person(0, 2), 1);
        due("no more", h.undo(), false);
    }

    private static void forgotten() {
        sentence(46, "A text, going back: none are remembered");
        SandHouse h = houseOf("room out 1;person 0");
        h.keep(0, 5);
        tell(h, "");
        due("an empty text", h.count(14), 0);
        due("undo behind it", h.undo(), false);
        due("KEEPS stays", h.person(0, 2), 5);
        h.keep(0, 6);
        rule(h, "");
        due("an empty law", h.count(14), 0);
        due("undo behind a law", h.undo(), false);
        h.keep(0, 7);
        h.image();
        due("keeping THE IMAGE forgets nothing", h.count(14), 1);
        h.back();
        due("going back", h.count(14), 0);
        due("undo behind going back", h.undo(), false);
        sentence(46, "a call that throws changes nothing");
        SandHouse r = houseOf("room out 1;person 0");
        r.keep(0, 5);
        wrongHouse(r, "clog", 4);
        tape(r, "drop");
        refused("a wrong law", ILLEGAL, r::law);
        refused("sweep", INDEX, () -> r.sweep(1));
        refused("beat", INDEX, () -> r.beat(1));
        refused("tool", ILLEGAL, () -> r.tool(0, 101));
        refused("keep", ILLEGAL, () -> r.keep(0, 101));
        refused("soak", ILLEGAL, () -> r.soak(0, 100));
        refused("rounds", ILLEGAL, () -> r.rounds(0));
        due("no way back", r.back(), false);
        due("one act still", r.count(14), 1);
        for (int i = 2; i <= 12; i++) {
            tell(r, "clog " + i);
        }
        r.keep(0, 9);
        tape(r, "clog 13");
        refused("text 13", UNSUPPORTED, r::house);
        due("one act behind a text refused", r.count(14), 1);
        due("undo of it", r.undo(), true);
        due("KEEPS as it was", r.person(0, 2), 5);
    }

    private static void image() {
        sentence(48, "false, and nothing happens, if none was kept");
        SandHouse h = houseOf("room out 1;person 0", "bring 10;drop 50");
        h.rounds(3);
        String before = state(h);
        due("back", h.back(), false);
        same("all behind it", before, state(h));
        sentence(47, "THE IMAGE (one) of all may be kept, and gone back to");
        h.image();
        h.rounds(2);
        due("back to it", h.back(), true);
        due("ROUND", h.count(5), 3);
        h.rounds(7);
        due("back to it again", h.back(), true);
        due("ROUND again", h.count(5), 3);
        h.rounds(4);
        h.image();
        h.rounds(1);
        due("back to the latter", h.back(), true);
        due("ROUND of the latter", h.count(5), 7);
        due("and again", h.back(), true);
        due("ROUND of the latter again", h.count(5), 7);
        sentence(47, "of a new object");
        SandHouse empty = new SandHouse();
        String nothing = state(empty);
        empty.image();
        tell(empty, "room out 1;person 0;clog 5;load 0 5");
        rule(empty, "drop 50");
        empty.rounds(5);
        due("back to nothing", empty.back(), true);
        same("nothing told", nothing, state(empty));
        due("the first text again", tell(empty, "room bed 9"), 1);
        due("the first ROOM again", empty.room(0, 0), 3);
    }

    private static void imageOfAll() {
        sentence(48, "all: but for the TAPE, fault() and THE IMAGE itself");
        SandHouse h = houseOf("room out 3;room bed 2;door 0 1;person 0 1;person 1;load 0 300;sand 1 1 90;tool 1 20;keeps 1 40;wet 1 3;clog 50",
            "bring 5;drop 30;pick 8;sweep 50");
        h.rounds(9);
        h.sweep(0);
        h.seed(4711);
        rule(h, "bring 6;drop 31");
        String before = state(h);
        int trial = h.trial(20, 0);
        h.image();
        tell(h, "room drain 9;door 1 2;person 2 1;load 0 7;load 2 8;sand 2 2 50;tool 0 9;keeps 0 8;wet 0 7;clog 6");
        rule(h, "drop 1;drop 2;drop 3");
        h.rounds(30);
        h.sweep(1);
        h.seed(5);
        tape(h, "clog x");
        refused("a wrong text", ILLEGAL, h::house);
        h.feed(0, 0, 0, 0, 0);
        due("back", h.back(), true);
        same("all", before, state(h));
        due("what would be", h.trial(20, 0), trial);
        due("rule", h.rule(0, 0, 0), 6);
        due("fault stays", h.fault(), 5);
        due("the TAPE stays", h.end(20), true);
        due("texts", h.count(3), 1);
        sentence(48, "texts of THE HOUSE go back as well");
        SandHouse texts = new SandHouse();
        for (int i = 1; i <= 11; i++) {
            tell(texts, "");
        }
        texts.image();
        due("the twelfth", tell(texts, ""), 12);
        tape(texts, "");
        refused("the thirteenth", UNSUPPORTED, texts::house);
        texts.back();
        due("the twelfth again", tell(texts, ""), 12);
    }

    private static void changeLast(SandHouse h) {
        h.tool(11, 60);
        h.keep(7, 61);
        h.soak(7, 62);
        h.beat(7);
        h.sweep(11);
    }

    private static void dueLast(String when, SandHouse h) {
        due("PART " + when, h.room(11, 2), 3);
        due("KEEPS " + when, h.person(7, 2), 4);
        due("WET " + when, h.person(7, 3), 5);
        due("LOAD " + when, h.load(7, 7), 60);
        due("in the ROOM " + when, h.sand(11, 7), 70);
    }

    private static void lastOfAll() {
        sentence(46, "all is as ahead of it: the eighth PERSON's, in the twelfth ROOM, too");
        SandHouse h = full("bed", "tool 11 3;keeps 7 4;wet 7 5;load 7 60;sand 11 7 70", "sweep 50");
        changeLast(h);
        due("it was swept", h.sand(11, 7), 35);
        for (int i = 0; i < 5; i++) {
            h.undo();
        }
        dueLast("undone", h);
        sentence(48, "of all: the eighth PERSON's, in the twelfth ROOM, too");
        h.image();
        changeLast(h);
        h.back();
        dueLast("gone back to", h);
    }

    private static void counts() {
        sentence(49, "NONE for another what");
        SandHouse h = houseOf("room out 3;room drain 2;door 0 1;door 1 0;person 0 1;load 0 100;sand 1 0 200;clog 77", "drop 50;pick 0");
        for (int what : new int[] {-1, 15, 16, LEAST, GREATEST}) {
            due("count(" + what + ")", h.count(what), -1);
        }
        h.rounds(1);
        h.sweep(0);
        h.beat(0);
        // 50 fell in the drain, of 250 25 are DRAINED; of 50 in LOAD 25 are beaten out
        int[] due = {2, 2, 1, 1, 2, 1, 225, 25, 50, 300, 25, 77, 3, 1, 3};
        for (int what = 0; what < due.length; what++) {
            due("count(" + what + ")", h.count(what), due[what]);
        }
    }
}
