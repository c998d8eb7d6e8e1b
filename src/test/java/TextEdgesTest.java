/** The sentences on the TAPE and on texts that name a bound, each at the bound and on both sides of it (promises 1 to 6). */
public final class TextEdgesTest extends Due {
    private static final String THREE = "room out 1;room stone 1;room bed 1;door 0 1;door 1 2;person 0;person 1";

    public static void main(String[] args) {
        nothingTold();
        noRoomNoPerson();
        feeding();
        ending();
        twelveTexts();
        fourteenLines();
        twelveRooms();
        twentyDoors();
        eightPeople();
        habits();
        numbersOfTheHouse();
        toldByThen();
        atFirst();
        loads();
        blanksAndWords();
        nearlyWords();
        fullTapes();
        emptyTexts();
        firstWrongOfTheHouse();
        nothingStays();
        twelveLawLines();
        numbersOfTheLaw();
        sums();
        sixDeep();
        firstWrongOfTheLaw();
        mostByTheLaw();
        comparisons();
        joins();
        sweepKnowsNobody();
        withoutALaw();
        faults();
        finish();
    }

    private static void nothingTold() {
        sentence(1, "Nothing told");
        SandHouse h = new SandHouse();
        due("ROUND", h.count(5), 0);
        due("CLOG at first", h.count(11), 1000);
        due("LINES without a law", h.count(4), -1);
        due("fault ahead of any", h.fault(), -1);
        due("SEED at first", h.seed(1), 1);
        due("no TAPE", h.end(1), false);
        for (int what = 0; what < 4; what++) {
            due("trial(100, " + what + ")", h.trial(100, what), 0);
        }
        due("stand by beds", h.stand(1, 0, false), -1);
        due("stand by all", h.stand(1, 24, true), -1);
        due("two", h.two(1, 0), -1);
        due("keepers", h.keepers(0, 0), 0);
        due("chores", h.chores(0, false), 0);
        due("rooms of chores", h.chores(0, true), 0);
        due("often", h.often(0, 1), 1);
        due("when", h.when(1), -1);
        due("clogs", h.clogs(), -1);
        due("fades", h.fades(0), 0);
        due("span, the fewest", h.span(24, false), 0);
        due("span, the most", h.span(24, true), 0);
        due("peak", h.peak(100), 1);
        due("blame", h.blame(), -1);
        due("itch", h.itch(0), 0);
        due("noon of nobody", h.noon(), 0);
        due("heels of nobody", h.heels(0), 0);
        for (int what = 0; what < 5; what++) {
            due("log(0, " + what + ")", h.log(0, what), -1);
        }
        due("undo", h.undo(), false);
        due("back", h.back(), false);
        due("rounds of nobody", h.rounds(100), 0);
        due("ROUND behind them", h.count(5), 100);
        due("undo of them", h.undo(), true);
        due("ROUND ahead of them", h.count(5), 0);
    }

    private static void noRoomNoPerson() {
        sentence(1, "IndexOutOfBoundsException: there is no such ROOM, PERSON");
        none(0, 0);
        none(-1, -1);
        none(LEAST, LEAST);
        none(GREATEST, GREATEST);
    }

    /** All that asks for a ROOM or a PERSON, with the other numbers wrong as well: the one told first is thrown. */
    private static void none(int room, int person) {
        SandHouse h = new SandHouse();
        String before = state(h);
        refused("room", INDEX, () -> h.room(room, 9));
        refused("sand", INDEX, () -> h.sand(room, person));
        refused("person", INDEX, () -> h.person(person, 9));
        refused("load", INDEX, () -> h.load(person, person));
        refused("habit", INDEX, () -> h.habit(person, -1));
        refused("rule", INDEX, () -> h.rule(person, room, 9));
        refused("sweep", INDEX, () -> h.sweep(room));
        refused("beat", INDEX, () -> h.beat(person));
        refused("tool", INDEX, () -> h.tool(room, 101));
        refused("keep", INDEX, () -> h.keep(person, 101));
        refused("soak", INDEX, () -> h.soak(person, 100));
        refused("worth", INDEX, () -> h.worth(room, 0, 101));
        refused("later", INDEX, () -> h.later(room, 25));
        refused("towel", INDEX, () -> h.towel(person, room, 25));
        refused("towelled", INDEX, () -> h.towelled(person, 25));
        refused("carries", INDEX, () -> h.carries(person, true));
        refused("whose", INDEX, () -> h.whose(room));
        refused("share", INDEX, () -> h.share(room, person));
        refused("ways", INDEX, () -> h.ways(room, room));
        refused("cross", INDEX, () -> h.cross(person, person));
        refused("led", INDEX, () -> h.led(room, -1));
        same("all behind refusals", before, state(h));
    }

    private static void feeding() {
        sentence(2, "NONE, and none come, if it would have more than 400");
        for (int ahead : new int[] {379, 380, 381, 399, 400}) {
            SandHouse h = new SandHouse();
            tape(h, times(" ", ahead, ""));
            due("feed behind " + ahead, h.feed(0, 0, 0, 0, 0), ahead <= 380 ? ahead + 20 : -1);
            int length = ahead <= 380 ? ahead + 20 : ahead;
            due("more than there is behind " + ahead, h.end(length + 1), false);
            due("all there is behind " + ahead, h.end(length), true);
        }
        sentence(2, "of each number the highest first");
        SandHouse h = new SandHouse();
        h.feed(0x636c6f67, 0x20373635, 0x3b636c6f, 0x67203433, 0x32312020);
        h.house();
        due("the latter clog", h.count(11), 4321);
        h.feed(0x80000000, 0, 0, 0, 0);
        h.end(1);
        refused("a byte of 128", ILLEGAL, h::house);
        due("its fault", h.fault(), 0);
        h.feed(0x20202020, 0x202020ff, 0, 0, 0);
        h.end(8);
        refused("a byte of 255", ILLEGAL, h::house);
        due("the fault of 255", h.fault(), 7);
    }

    private static void ending() {
        sentence(3, "false, and nothing happens, if it has fewer, or n is below 0");
        SandHouse h = new SandHouse();
        due("end(0) of none", h.end(0), true);
        due("end(1) of none", h.end(1), false);
        h.feed(0x636c6f67, 0x20373635, 0, 0, 0);
        for (int n : new int[] {21, 400, 401, GREATEST, -1, LEAST}) {
            due("end(" + n + ") of 20", h.end(n), false);
        }
        due("end(20) of 20", h.end(20), true);
        due("end(8) of 20", h.end(8), true);
        due("end(9) of 8", h.end(9), false);
        due("end(8) of 8", h.end(8), true);
        due("feed behind 8", h.feed(0x31202020, 0, 0, 0, 0), 28);
        due("end(9) of 28", h.end(9), true);
        h.house();
        due("the numbers of both", h.count(11), 7651);
        sentence(3, "The TAPE has its first n bytes alone");
        h.feed(0x636c6f67, 0x20373635, 0, 0, 0);
        h.end(0);
        h.feed(0x20202020, 0x20202020, 0x20202020, 0x20202020, 0x20202020);
        due("blanks alone", h.house(), 2);
        due("what was cut does not count", h.count(11), 7651);
    }

    private static void twelveTexts() {
        sentence(4, "UnsupportedOperationException: there are 12");
        SandHouse h = new SandHouse();
        for (int i = 1; i <= 12; i++) {
            due("text " + i, tell(h, "clog " + i), i);
            due("texts behind " + i, h.count(3), i);
        }
        tape(h, "clog 13");
        refusedWhole("text 13", UNSUPPORTED, h, h::house);
        due("CLOG of the twelfth", h.count(11), 12);
        due("the TAPE of one refused is used up", h.end(1), false);
        due("fault of one refused", h.fault(), -1);
        tape(h, "");
        refused("an empty text 13", UNSUPPORTED, h::house);
        sentence(4, "Of several exceptions the one told first is thrown");
        wrongHouse(h, "clog 1;clog", 11);
        tape(h, "");
        refused("text 13 again", UNSUPPORTED, h::house);
        due("fault is read anew by one refused", h.fault(), -1);
        due("a law is none of these texts", rule(h, "drop 1"), 1);
        due("texts behind a law", h.count(3), 12);
        sentence(4, "of a wrong text nothing stays");
        SandHouse few = new SandHouse();
        wrongHouse(few, "clog", 4);
        due("a wrong text is none", few.count(3), 0);
        due("the first right one", tell(few, ""), 1);
    }

    private static void fourteenLines() {
        sentence(6, "LINE { ; LINE }, at most 14: of a LINE too many the first word");
        rightHouse("", times("clog 1", 13, ";"));
        rightHouse("", times("clog 1", 14, ";"));
        wrongAt("", times("clog 1", 14, ";") + ";^clog 1");
        wrongAt("", times("clog 1", 14, ";") + " ;  ^clog 1");
        wrongAt("", times("clog 1", 14, ";") + ";^clog 1;clog 1");
        wrongAt("", times("clog 1", 14, ";") + ";^nothing");
        wrongAt("", times("clog 1", 14, ";") + ";^;");
        wrongAt("", times("clog 1", 14, ";") + ";  ^");
        wrongAt("", times("clog 1", 13, ";") + ";clog^");
        wrongAt("", times("clog 1", 14, ";") + " ^clog 1");
    }

    private static void twelveRooms() {
        sentence(6, "ROOMS (at most 12): of a ROOM too many the first word");
        String eleven = times("room bed 1", 11, ";");
        rightHouse("", eleven + ";room out 99");
        wrongAt("", eleven + ";room out 99;^room out 1");
        wrongAt("", eleven + ";room out 99;^room");
        wrongAt(eleven, "room out 1; ^room out 1");
        wrongAt(eleven + ";room out 1", "^room out 1");
        sentence(7, "ROOMS: numbered from 0 on");
        SandHouse h = houseOf(eleven + ";room out 99");
        due("ROOMS", h.count(0), 12);
        due("the last", h.room(11, 1), 99);
        due("the first", h.room(0, 1), 1);
        refused("one behind", INDEX, () -> h.room(12, 0));
        refused("one ahead", INDEX, () -> h.room(-1, 0));
    }

    private static void twentyDoors() {
        sentence(6, "DOORS (at most 20): of a DOOR too many the first word");
        SandHouse h = houseOf("room out 1;room bed 1;" + times("door 0 1", 12, ";"));
        due("19 DOORS", tell(h, times("door 1 0", 7, ";")), 2);
        due("DOORS", h.count(1), 19);
        wrongHouse(h, "door 0 1;door 0 1", 9);
        tell(h, "door 0 1");
        due("20 DOORS", h.count(1), 20);
        wrongHouse(h, "door 0 1", 0);
        wrongHouse(h, "clog 9;door", 7);
        sentence(7, "DOORS: between two ROOMS, both ways");
        SandHouse ways = houseOf("room out 1;room bed 1;room bed 1;door 2 0;person 0 2;person 2 0");
        due("of the one", ways.room(0, 5), 4);
        due("of the other", ways.room(2, 5), 1);
        due("of one without", ways.room(1, 5), 0);
        sentence(6, "the two of a door not the same: else the latter is wrong");
        wrongAt(THREE, "door 0 ^0");
        wrongAt(THREE, "door 2 ^2;clog 1");
        wrongAt(THREE, "door 2 ^02");
        rightHouse(THREE, "door 0 2");
    }

    private static void eightPeople() {
        sentence(6, "PEOPLE (at most 8): of a PERSON too many the first word");
        rightHouse("room bed 1", times("person 0", 8, ";"));
        wrongAt("room bed 1", times("person 0", 8, ";") + ";^person 0");
        wrongAt("room bed 1", times("person 0", 8, ";") + "; ^person");
        wrongAt("room bed 1;" + times("person 0", 8, ";"), "^person 0");
        sentence(9, "PEOPLE: numbered from 0 on");
        SandHouse h = houseOf("room bed 1;room bed 1;" + times("person 0", 7, ";") + ";person 1");
        due("PEOPLE", h.count(2), 8);
        due("the last", h.person(7, 0), 1);
        due("the one before", h.person(6, 0), 0);
        refused("one behind", INDEX, () -> h.person(8, 0));
        refused("one ahead", INDEX, () -> h.person(-1, 0));
    }

    private static void habits() {
        sentence(6, "a HABIT: 1 to 12 ROOMS: of a ROOM of a HABIT too many that number");
        wrongAt(THREE, "person^");
        wrongAt(THREE, "person ^;clog 1");
        wrongAt(THREE, "person ^x");
        rightHouse(THREE, "person 0");
        rightHouse(THREE, "person " + times("0", 11, " "));
        rightHouse(THREE, "person " + times("0", 12, " "));
        wrongAt(THREE, "person " + times("0", 12, " ") + " ^0");
        wrongAt(THREE, "person " + times("0", 12, " ") + " ^1");
        wrongAt(THREE, "person " + times("0", 12, " ") + " ^99");
        wrongAt(THREE, "person " + times("0", 12, " ") + " ^000000");
        // the twelfth would lead to the first by no door, but it is not the last
        wrongAt(THREE, "person " + times("0", 10, " ") + " 1 2 ^1");
        sentence(6, "each but the first with a DOOR to the one before (or the same ROOM): else the latter is wrong");
        rightHouse(THREE, "person 0 0");
        rightHouse(THREE, "person 0 1");
        rightHouse(THREE, "person 1 0 0 1 2 2");
        wrongAt(THREE, "person 0 ^2");
        wrongAt(THREE, "person 0 ^2 1 0");
        wrongAt(THREE, "person 1 0 ^2 1");
        wrongAt(THREE, "person 0 ^3 1");
        sentence(6, "the last likewise to the first: the last one of a HABIT is wrong, if it does not lead to the first");
        rightHouse(THREE, "person 0 1 2 1");
        rightHouse(THREE, "person 0 1 2 1 0");
        wrongAt(THREE, "person 0 1 ^2");
        wrongAt(THREE, "person 0 1 ^2;clog 1");
        wrongAt(THREE, "person 0 1 ^2   ");
        wrongAt(THREE, "person 2 1 0 0 ^0");
        rightHouse(THREE, "door 0 2;person 0 1 2");
        wrongAt(THREE, "person 0 1 ^2;door 0 2");
        wrongAt(THREE, "person " + times("0", 10, " ") + " 1 ^2");
        sentence(9, "one is in the first at first");
        SandHouse h = houseOf(THREE + ";person 2 1 0 1");
        due("the ROOM", h.person(2, 0), 2);
        due("which of these", h.person(2, 5), 0);
        sentence(11, "the k-th ROOM of a HABIT (from 0 on); NONE, if there is none");
        int[] due = {2, 1, 0, 1, -1};
        for (int k = 0; k < 5; k++) {
            due("habit(2, " + k + ")", h.habit(2, k), due[k]);
        }
        for (int k : new int[] {-1, 12, LEAST, GREATEST}) {
            due("habit(2, " + k + ")", h.habit(2, k), -1);
        }
        SandHouse long1 = houseOf("room out 1;room bed 1;door 0 1;person 0 0 0 0 0 0 0 0 0 0 0 1;person 1");
        due("the twelfth", long1.habit(0, 11), 1);
        due("none behind", long1.habit(0, 12), -1);
        due("the other one's alone", long1.habit(1, 0), 1);
        due("none of the other's behind", long1.habit(1, 1), -1);
    }

    /** A number of a LINE at its bounds, on both sides of them, with as many digits as may be, and missing. */
    private static void bound(String before, int least, int most, String behind) {
        rightHouse(THREE, before + least + behind);
        rightHouse(THREE, before + most + behind);
        rightHouse(THREE, before + String.format("%05d", most) + behind);
        rightHouse(THREE, before + String.format("%05d", least) + behind);
        wrongAt(THREE, before + "^" + (most + 1) + behind);
        wrongAt(THREE, before + "^" + String.format("%06d", most) + behind);
        wrongAt(THREE, before + "^" + String.format("%06d", least) + behind);
        wrongAt(THREE, before + "^99999999999999999999" + behind);
        wrongAt(THREE, before + "^4294967296" + behind);
        wrongAt(THREE, before + "^4294967297" + behind);
        wrongAt(THREE, before + "^x" + behind);
        wrongAt(THREE, before + "^-1" + behind);
        wrongAt(THREE, before + "^;" + behind);
        wrongAt(THREE, before + "^");
        wrongAt(THREE, before + "   ^");
        if (least > 0) {
            wrongAt(THREE, before + "^" + (least - 1) + behind);
        }
        if (most < 99999) {
            wrongAt(THREE, before + "^99999" + behind);
        }
    }

    /** With more PEOPLE than ROOMS a number may tell one of those and yet none of these. */
    private static void numbersOfFewRooms() {
        String few = "room bed 1;person 0;person 0;person 0";
        sentence(6, "R: a ROOM (there are fewer than PEOPLE)");
        wrongAt(few, "sand ^1 0 5");
        wrongAt(few, "sand ^2 0");
        wrongAt(few, "tool ^1 5");
        wrongAt(few, "door ^1 0");
        wrongAt(few, "door 0 ^2");
        wrongAt(few, "person ^1");
        wrongAt(few, "person 0 ^2");
        sentence(6, "P: a PERSON (there are more than ROOMS)");
        rightHouse(few, "sand 0 2 5;load 2 5;keeps 2 5;wet 2 5");
        wrongAt(few, "sand 0 ^3 5");
    }

    private static void numbersOfTheHouse() {
        sentence(6, "N of room: MINUTES 1 to 99");
        bound("room drain ", 1, 99, "");
        sentence(6, "door R R: a ROOM that there is by then");
        bound("door ", 0, 2, " 1");
        bound("door 1 ", 0, 2, "");
        sentence(6, "person R");
        bound("person ", 0, 2, "");
        sentence(6, "load P N: a PERSON that there is by then; 0 to 9999");
        bound("load ", 0, 1, " 5");
        bound("load 1 ", 0, 9999, "");
        sentence(6, "sand R P N: 0 to 9999");
        bound("sand ", 0, 2, " 1 5");
        bound("sand 2 ", 0, 1, " 5");
        bound("sand 2 1 ", 0, 9999, "");
        sentence(6, "tool R N: PART (0: none), 1 to 100");
        bound("tool ", 0, 2, " 5");
        bound("tool 2 ", 0, 100, "");
        sentence(6, "keeps P N: 0 to 100");
        bound("keeps ", 0, 1, " 5");
        bound("keeps 1 ", 0, 100, "");
        sentence(6, "wet P N: 0 to 99");
        bound("wet ", 0, 1, " 5");
        bound("wet 1 ", 0, 99, "");
        sentence(6, "clog N: 0 to 99999");
        bound("clog ", 0, 99999, "");
        numbersOfFewRooms();
        SandHouse h = houseOf("room out 1;room drain 99;person 1;tool 0 1;tool 1 100;keeps 0 0;wet 0 99;clog 99999;sand 1 0 9999;load 0 9999");
        sentence(4, "what is told at the bounds");
        due("MINUTES 1", h.room(0, 1), 1);
        due("MINUTES 99", h.room(1, 1), 99);
        due("PART 1", h.room(0, 2), 1);
        due("PART 100", h.room(1, 2), 100);
        due("KEEPS 0", h.person(0, 2), 0);
        due("WET 99", h.person(0, 3), 99);
        due("CLOG 99999", h.count(11), 99999);
        due("sand 9999", h.sand(1, 0), 9999);
        due("load 9999", h.load(0, 0), 9999);
        tell(h, "tool 1 0;keeps 0 100;wet 0 0;clog 0;sand 1 0 0;load 0 0");
        due("PART 0: none", h.room(1, 2), 0);
        due("KEEPS 100", h.person(0, 2), 100);
        due("WET 0", h.person(0, 3), 0);
        due("CLOG 0", h.count(11), 0);
        due("sand 0 more", h.sand(1, 0), 9999);
        due("load 0 more", h.load(0, 0), 9999);
    }

    private static void toldByThen() {
        sentence(6, "a ROOM, a PERSON that there is by then");
        wrongAt("", "door ^0 1;room out 1;room bed 1");
        wrongAt("", "room out 1;door 0 ^1;room bed 1");
        rightHouse("", "room out 1;room bed 1;door 0 1");
        wrongAt("", "person ^0;room out 1");
        rightHouse("", "room out 1;person 0");
        wrongAt("room out 1", "load ^0 5;person 0");
        wrongAt("room out 1;person 0", "load 0 5;load ^1 5;person 0");
        rightHouse("room out 1;person 0", "load 0 5;person 0;load 1 5");
        wrongAt("room out 1", "sand 0 ^0 1;person 0");
        wrongAt("", "tool ^0 1;room out 1");
        wrongAt("room out 1", "keeps ^0 1;person 0");
        wrongAt("room out 1", "wet ^0 1;person 0");
        // a wrong text told a ROOM: it is none for the next text
        SandHouse h = new SandHouse();
        wrongHouse(h, "room out 1;room", 15);
        wrongHouse(h, "tool 0 1", 5);
    }

    private static void atFirst() {
        sentence(9, "KEEPS 100 at first, WET 0 at first");
        SandHouse h = houseOf("room out 1;person 0;keeps 0 3;wet 0 4");
        tell(h, "person 0");
        due("KEEPS told", h.person(0, 2), 3);
        due("WET told", h.person(0, 3), 4);
        due("KEEPS at first", h.person(1, 2), 100);
        due("WET at first", h.person(1, 3), 0);
        due("LOAD at first", h.person(1, 1), 0);
        due("TOOL at first", h.room(0, 2), 0);
        due("grains at first", h.room(0, 3), 0);
        sentence(9, "at first also if others went on, or were gone back from");
        SandHouse back = houseOf("room out 1;room out 1;door 0 1");
        back.image();
        tell(back, "person 0 1;keeps 0 3;wet 0 4;load 0 7;room bed 1;tool 2 5;sand 2 0 9");
        back.rounds(3);
        back.back();
        tell(back, "room bed 1;person 0 1");
        due("KEEPS of another one", back.person(0, 2), 100);
        due("WET of another one", back.person(0, 3), 0);
        due("LOAD of another one", back.person(0, 1), 0);
        due("place of another one", back.person(0, 5), 0);
        due("TOOL of another ROOM", back.room(2, 2), 0);
        due("grains of another ROOM", back.room(2, 3), 0);
        SandHouse wrong = houseOf("room out 1;room out 1;door 0 1");
        wrongHouse(wrong, "person 0 1;keeps 0 3;wet 0 4;load 0 7;room bed 1;tool 2 5;sand 2 0 9;door 1 2;clog", 82);
        tell(wrong, "room bed 1;person 0 1");
        due("KEEPS behind a wrong text", wrong.person(0, 2), 100);
        due("WET behind a wrong text", wrong.person(0, 3), 0);
        due("LOAD behind a wrong text", wrong.person(0, 1), 0);
        due("TOOL behind a wrong text", wrong.room(2, 2), 0);
        due("grains behind a wrong text", wrong.room(2, 3), 0);
        due("DOORS behind a wrong text", wrong.room(2, 5), 0);
    }

    private static void loads() {
        sentence(10, "load: of one's own more (what would be above 9999 does not come)");
        int[][] loads = {{9998, 0, 9998}, {9998, 1, 9999}, {9998, 2, 9999}, {9999, 0, 9999}, {9999, 1, 9999}, {9999, 9999, 9999}, {0, 9999, 9999}};
        for (int[] l : loads) {
            SandHouse h = houseOf("room out 1;person 0;load 0 " + l[0] + ";load 0 " + l[1]);
            due(l[0] + " and " + l[1], h.load(0, 0), l[2]);
            due(l[0] + " and " + l[1] + " told", h.count(9), l[2]);
        }
        sentence(10, "A LOAD is 9999 grains at most, others' among them");
        SandHouse other = houseOf("room stone 1;room stone 1;person 0;person 1;sand 0 1 9990", "pick 100 if room < 1");
        other.rounds(1);
        tell(other, "load 0 8;load 1 8");
        due("8 of one's own", other.load(0, 0), 8);
        due("8 of the other", other.load(1, 1), 8);
        tell(other, "load 0 2");
        due("one more comes", other.load(0, 0), 9);
        due("LOAD", other.person(0, 1), 9999);
        due("told", other.count(9), 9990 + 8 + 8 + 1);
        sentence(8, "sand: grains of P's more in a ROOM, without an end");
        SandHouse sand = houseOf("room bed 1;person 0;person 0;sand 0 1 9999;sand 0 1 9999;sand 0 0 1");
        due("sand", sand.sand(0, 1), 19998);
        due("in the ROOM", sand.room(0, 3), 19999);
        due("told in the ROOM", sand.count(9), 19999);
    }

    private static void blanksAndWords() {
        sentence(6, "Words are as long as a to z go on; between all there may be blanks (32), also ahead and behind");
        rightHouse("", "room bed 1");
        rightHouse("", "   room   bed   1   ");
        rightHouse("", "room bed1;room out2");
        wrongAt("", "^roombed 1");
        wrongAt("", "room ^bedroom 1");
        wrongAt("", "room ^be d 1");
        wrongAt("", "^ro om bed 1");
        wrongAt("", "room bed 1 ^2");
        wrongAt("", "room bed 1^x");
        wrongAt("", "room ^Bed 1");
        wrongAt("", "^Room bed 1");
        wrongAt("", "^rooM bed 1");
        for (int sign : new int[] {0, 9, 10, 13, 31, 33, 47, 58, 64, 91, 96, 123, 127, 128, 160, 255}) {
            wrongAt("", "room" + "^" + (char) sign + "bed 1");
            wrongAt("", "room bed ^" + (char) sign + "1");
            wrongAt("", "^" + (char) sign + "room bed 1");
            wrongAt("", "room bed 1^" + (char) sign);
        }
        // the letters and digits next to the bounds
        wrongAt("", "^azroom bed 1");
        wrongAt("", "room ^bedz 1");
        wrongAt("", "room ^beda 1");
        wrongAt("", "room ^zbed 1");
        wrongAt("", "room ^abed 1");
        wrongAt("", "room bed 1^z");
        wrongAt("", "room bed 1^a");
        rightHouse("", "clog 90");
        wrongAt("", "clog 9^/");
        wrongAt("", "clog 9^:");
        wrongAt(THREE, "door 01^");
        rightHouse(THREE, "door0 01;person0 1;load0 5;sand0 0 5;tool0 5;keeps0 5;wet0 5;clog5");
    }

    /** A word with a letter less or more at either end is none. */
    private static String[] nearly(String word) {
        String first = word.substring(0, 1);
        String last = word.substring(word.length() - 1);
        return new String[] {word.substring(1), word.substring(0, word.length() - 1), first + word, word + last, word + first, word + word};
    }

    private static void nearlyWords() {
        sentence(6, "a word that is none");
        for (String word : "room door person load sand tool keeps wet clog".split(" ")) {
            for (String none : nearly(word)) {
                wrongAt(THREE, "clog 5;^" + none + " 0 0 1");
            }
        }
        for (String word : "out stone carpet bed drain".split(" ")) {
            for (String none : nearly(word)) {
                wrongAt(THREE, "room ^" + none + " 1");
                wrongLawAt("drop 1 if ^" + none);
            }
        }
        for (String word : "bring drop pick sweep".split(" ")) {
            for (String none : nearly(word)) {
                wrongLawAt("drop 1;^" + none + " 1");
            }
        }
        for (String none : nearly("if")) {
            wrongLawAt("drop 1 ^" + none + " bed");
        }
        for (String word : "and or".split(" ")) {
            for (String none : nearly(word)) {
                wrongLawAt("drop 1 if bed ^" + none + " bed");
            }
        }
        for (String none : nearly("not")) {
            wrongLawAt("drop 1 if ^" + none + " bed");
        }
        for (String none : nearly("wet")) {
            wrongLawAt("drop 1 if ^" + none);
        }
        for (String word : "person room load here round part".split(" ")) {
            for (String none : nearly(word)) {
                wrongLawAt("drop 1 if ^" + none + " < 1");
                wrongLawAt("drop 1 if 1 < ^" + none);
            }
        }
    }

    /** A text of 400 bytes, with blanks ahead of its last thing. */
    private static String padded(String ahead, String last) {
        return ahead + times(" ", 400 - ahead.length() - last.length(), "") + last;
    }

    private static void fullTapes() {
        sentence(6, "Words at the end of 400 bytes");
        wrongHouse("", padded("room", "be"), 398);
        wrongHouse("", padded("room", "bed"), 400);
        wrongHouse("", padded("room", "bedr"), 396);
        wrongHouse("", padded("clog 1;", "roo"), 397);
        wrongHouse("", padded("clog 1;", "room"), 400);
        rightHouse("", padded("room bed", "1"));
        wrongHouse("", padded("room bed", "1;"), 400);
        rightLaw(padded("drop 1 if", "bed"), 1);
        wrongLaw(padded("drop 1 if", "be"), 398);
        wrongLaw(padded("drop 1 if", "perso"), 395);
        wrongLaw(padded("drop 1 if", "person"), 400);
        rightLaw(padded("drop 1 if 1 <", "person"), 1);
        wrongLaw(padded("drop 1 if", "no"), 398);
        wrongLaw(padded("drop 1 if", "not"), 400);
        wrongLaw(padded("drop 1", "i"), 399);
        wrongLaw(padded("drop 1", "if"), 400);
        rightLaw(padded("drop 1 if (wet", ")"), 1);
    }

    private static void emptyTexts() {
        sentence(4, "A text that is empty, or blanks alone, has no LINE");
        SandHouse h = new SandHouse();
        due("empty", h.house(), 1);
        due("one blank", tell(h, " "), 2);
        due("400 blanks", tell(h, times(" ", 400, "")), 3);
        due("fault", h.fault(), -1);
        sentence(5, "A text that is empty, or blanks alone, has no LINE");
        due("empty law", h.law(), 0);
        due("LINES", h.count(4), 0);
        due("a law of blanks", rule(h, "   "), 0);
        due("a law of 400 blanks", rule(h, times(" ", 400, "")), 0);
        tell(h, "room out 1;person 0");
        for (int what = 0; what < 3; what++) {
            due("rule " + what + " without a LINE", h.rule(0, 0, what), 0);
        }
        due("SWEEPS without a LINE", h.room(0, 6), 0);
    }

    private static void firstWrongOfTheHouse() {
        sentence(6, "the begin of the first thing that cannot stand there, or the text's length, if more must come");
        wrongAt("", "^;");
        wrongAt("", "clog 1;^");
        wrongAt("", "clog 1;   ^");
        wrongAt("", "clog 1;^;");
        wrongAt("", "clog 1^,clog 1");
        wrongAt("", "clog 1 ^clog 1");
        wrongAt("", "^5");
        wrongAt("", "^rooms bed 1");
        wrongAt("", "^roo");
        wrongAt("", "room^");
        wrongAt("", "room ^;");
        wrongAt("", "room ^1 bed");
        wrongAt("", "room ^wet 1");
        wrongAt("", "room bed^;");
        wrongAt("", "room bed 1;^drop 5");
        wrongAt("", "room bed 1;^if");
        wrongAt("", "room bed ^0;room bed 0");
        wrongAt(THREE, "door^");
        wrongAt(THREE, "door 0 ^;");
        wrongAt(THREE, "door 0 1 ^2");
        wrongAt(THREE, "load 0 5 ^5");
        wrongAt(THREE, "sand 0 0 ^");
        wrongAt(THREE, "person 0 ^bed");
        wrongAt(THREE, "person 0 1^.");
        wrongAt("", times(" ", 399, "") + "^x");
        wrongAt("", "clog" + times(" ", 396, "") + "^");
    }

    private static void nothingStays() {
        sentence(4, "Of a wrong text nothing stays");
        SandHouse h = houseOf(THREE + ";load 0 5;sand 2 1 6;clog 7", "drop 50");
        h.rounds(2);
        h.keep(1, 60);
        wrongHouse(h, "room bed 5;door 0 2;person 0 2;load 0 9;load 2 9;sand 0 0 9;tool 0 9;tool 3 9;keeps 0 9;wet 0 9;clog 9;x", 103);
        due("acts can still be UNDONE", h.undo(), true);
        tape(h, "pick 10;drop 7;bring");
        refusedWhole("law", ILLEGAL, h, h::law);
        due("acts can still be UNDONE behind a wrong law", h.undo(), true);
        due("DROPS as they were", h.rule(0, 0, 1), 50);
        due("LINES as they were", h.count(4), 1);
    }

    private static void twelveLawLines() {
        sentence(6, "THE LAW: LINE { ; LINE }, at most 12: of a LINE too many the first word");
        rightLaw("drop 1", 1);
        rightLaw(times("drop 1", 11, ";"), 11);
        rightLaw(times("drop 1", 12, ";"), 12);
        wrongLawAt(times("drop 1", 12, ";") + ";^drop 1");
        wrongLawAt(times("drop 1", 12, ";") + " ;  ^pick 1 if wet");
        wrongLawAt(times("drop 1", 12, ";") + ";^x");
        wrongLawAt(times("drop 1", 12, ";") + ";^;");
        wrongLawAt(times("drop 1", 12, ";") + ";  ^");
        wrongLawAt(times("drop 1", 11, ";") + ";drop^");
        sentence(5, "in place of the one before");
        SandHouse h = houseOf(THREE, times("drop 1", 12, ";"));
        due("twelve", h.rule(0, 0, 1), 12);
        due("LINES of twelve", h.count(4), 12);
        due("law", rule(h, "drop 3;bring 4"), 2);
        due("DROPS of the latter", h.rule(0, 0, 1), 3);
        due("LINES of the latter", h.count(4), 2);
        sentence(12, "the sum of N of all LINES that hold: of the twelfth, too, by its own condition");
        String eleven = times("drop 1 if room < 9", 11, ";");
        due("the twelfth holds", houseOf(THREE, eleven + ";drop 5 if room < 9").rule(0, 0, 1), 16);
        due("the twelfth does not hold", houseOf(THREE, eleven + ";drop 5 if room > 9").rule(0, 0, 1), 11);
        due("it alone holds", houseOf(THREE, times("drop 1 if room > 9", 11, ";") + ";drop 5 if room < 9").rule(0, 0, 1), 5);
    }

    private static void numberOfLaw(String before, String behind) {
        for (String n : new String[] {"0", "1", "00", "000", "99", "999", "007"}) {
            rightLaw(before + n + behind, 1);
        }
        for (String n : new String[] {"1000", "0000", "0001", "9999", "99999999999", "4294967296"}) {
            wrongLawAt(before + "^" + n + behind);
        }
        wrongLawAt(before + "^-1" + behind);
        wrongLawAt(before + " ^" + behind.trim());
    }

    private static void numbersOfTheLaw() {
        sentence(6, "All numbers are of 1 to 3 digits here");
        for (String kind : new String[] {"bring", "drop", "pick", "sweep"}) {
            numberOfLaw(kind + " ", " if wet");
            wrongLawAt(kind + "^");
            wrongLawAt(kind + "  ^");
            wrongLawAt(kind + " ^;");
            rightLaw(kind + "5", 1);
            rightLaw(kind + " 5if wet", 1);
        }
        numberOfLaw("drop 5 if ", " > 7");
        numberOfLaw("drop 5 if 7 < ", " and wet");
        numberOfLaw("drop 5 if here + ", " > 7");
        numberOfLaw("drop 5 if 7 > here + ", " or wet");
        sentence(5, "a number of three digits counts whole");
        SandHouse h = houseOf("room out 1;person 0;load 0 999");
        rule(h, "drop 5 if load < 999");
        due("999 < 999", h.rule(0, 0, 1), 0);
        rule(h, "drop 5 if load < 999 + 1");
        due("999 < 1000", h.rule(0, 0, 1), 5);
        tell(h, "load 0 9000");
        rule(h, "drop 5 if load > " + times("999", 10, "+"));
        due("9999 > 9990", h.rule(0, 0, 1), 5);
        rule(h, "drop 5 if load > " + times("999", 10, "+") + "+9");
        due("9999 > 9999", h.rule(0, 0, 1), 0);
    }

    private static void sums() {
        sentence(6, "SUM: PART { + PART }; PART: NUMBER | person | room | load | here | round | part");
        for (String part : new String[] {"person", "room", "load", "here", "round", "part", "5"}) {
            rightLaw("drop 5 if " + part + " < " + part, 1);
            rightLaw("drop 5 if " + part + "+" + part + ">" + part + "+" + part, 1);
            wrongLawAt("drop 5 if " + part + "^");
            wrongLawAt("drop 5 if " + part + " ^;");
            wrongLawAt("drop 5 if " + part + " ^and wet");
            wrongLawAt("drop 5 if " + part + " + ^");
            wrongLawAt("drop 5 if " + part + " + ^+ 1 < 1");
            wrongLawAt("drop 5 if " + part + " + ^wet < 1");
            wrongLawAt("drop 5 if " + part + " < ^");
            wrongLawAt("drop 5 if " + part + " < 1 ^< 2");
            wrongLawAt("drop 5 if " + part + " < 1 ^> 2");
            wrongLawAt("drop 5 if " + part + " ^= 1");
            wrongLawAt("drop 5 if " + part + " <^= 1");
            wrongLawAt("drop 5 if " + part + " ^) < 1");
        }
        for (String atom : new String[] {"out", "stone", "carpet", "bed", "drain", "wet"}) {
            rightLaw("drop 5 if " + atom, 1);
            wrongLawAt("drop 5 if " + atom + " ^< 1");
            wrongLawAt("drop 5 if " + atom + " ^+ 1");
            wrongLawAt("drop 5 if 1 < ^" + atom);
            wrongLawAt("drop 5 if ^" + atom + "s");
            wrongLawAt("drop 5 if " + atom + " ^" + atom);
        }
        sentence(5, "a SUM is as long as the TAPE");
        SandHouse h = houseOf("room out 1;person 0");
        rule(h, "drop 9 if 195 > 0+" + times("1", 191, "+"));
        due("195 > 191", h.rule(0, 0, 1), 9);
        rule(h, "drop 9 if 191 > 0+" + times("1", 191, "+"));
        due("191 > 191", h.rule(0, 0, 1), 0);
    }

    private static void sixDeep() {
        sentence(6, "( and not within one another at most 6 deep: the ( or not that is a 7th one deep");
        rightLaw("drop 5 if " + times("(", 5, "") + "wet" + times(")", 5, ""), 1);
        rightLaw("drop 5 if " + times("(", 6, "") + "wet" + times(")", 6, ""), 1);
        wrongLawAt("drop 5 if " + times("(", 6, "") + "^(wet" + times(")", 7, ""));
        wrongLawAt("drop 5 if " + times("(", 6, "") + "^(");
        wrongLawAt("drop 5 if " + times("(", 6, "") + "^((((wet");
        rightLaw("drop 5 if " + times("not ", 6, "") + "wet", 1);
        wrongLawAt("drop 5 if " + times("not ", 6, "") + "^not wet");
        wrongLawAt("drop 5 if " + times("not ", 6, "") + "^(wet)");
        wrongLawAt("drop 5 if " + times("(", 6, "") + "^not wet" + times(")", 6, ""));
        rightLaw("drop 5 if not(not(not(wet)))", 1);
        wrongLawAt("drop 5 if not(not(not(^not wet)))");
        wrongLawAt("drop 5 if not(not(not(^(wet))))");
        // one behind another is not deeper
        rightLaw("drop 5 if " + times("((((((wet))))))", 5, " or "), 1);
        rightLaw("drop 5 if " + times("not not not not not not wet", 4, " and ") + " or (out)", 1);
        rightLaw("drop 5 if " + times("((((((wet))))))", 3, " and ") + ";pick 5 if ((((((1 < 2))))))", 2);
        wrongLawAt("drop 5 if (out) and not wet and ((((((bed) or (^(wet");
        sentence(6, "( C )");
        wrongLawAt("drop 5 if (wet^");
        wrongLawAt("drop 5 if (wet ^;");
        wrongLawAt("drop 5 if wet^)");
        wrongLawAt("drop 5 if (wet)^)");
        wrongLawAt("drop 5 if (^)");
        wrongLawAt("drop 5 if (1 < 2 ^< 3)");
        wrongLawAt("drop 5 if (1^) < 2");
        wrongLawAt("drop 5 if ((wet) ^");
        wrongLawAt("drop 5 if (^;drop 5");
        wrongLawAt("drop 5 if (^or wet");
        wrongLawAt("drop 5 if (^and wet");
        wrongLawAt("drop 5 if (wet and ^or wet");
        wrongLawAt("drop 5 if (wet or ^and wet)");
        wrongLawAt("drop 5 if not (^;drop 5");
        wrongLawAt("drop 5 if not (wet or ^)");
    }

    private static void firstWrongOfTheLaw() {
        sentence(6, "the begin of the first thing that cannot stand there, or the text's length, if more must come");
        wrongLawAt("^;");
        wrongLawAt("^5");
        wrongLawAt("^if wet");
        wrongLawAt("^brings 5");
        wrongLawAt("^room bed 5");
        wrongLawAt("drop 5;^");
        wrongLawAt("drop 5;  ^");
        wrongLawAt("drop 5 ^wet");
        wrongLawAt("drop 5 ^or wet");
        wrongLawAt("drop 5 ^5");
        wrongLawAt("drop 5 ^ifwet");
        wrongLawAt("drop 5 if^");
        wrongLawAt("drop 5 if   ^");
        wrongLawAt("drop 5 if ^;");
        wrongLawAt("drop 5 if ^or");
        wrongLawAt("drop 5 if ^if wet");
        wrongLawAt("drop 5 if wet or^");
        wrongLawAt("drop 5 if wet or ^and wet");
        wrongLawAt("drop 5 if wet and^");
        wrongLawAt("drop 5 if wet and ^or wet");
        wrongLawAt("drop 5 if wet ^not wet");
        wrongLawAt("drop 5 if wet ^(wet)");
        wrongLawAt("drop 5 if wet ^if wet");
        wrongLawAt("drop 5 if not^");
        wrongLawAt("drop 5 if not ^and");
        wrongLawAt("drop 5 if ^notwet");
        wrongLawAt("drop 5 if wet^" + (char) 9);
        wrongLawAt("drop 5 if ^> 1");
        wrongLawAt("drop 5 if wet;^wet");
    }

    private static void mostByTheLaw() {
        sentence(12, "BRINGS: 200 at most; DROPS, PICKS: likewise, 100 at most");
        SandHouse h = houseOf(THREE);
        int[][] sums = {{199, 0, 199, 100}, {200, 0, 200, 100}, {201, 0, 200, 100}, {999, 999, 200, 100}, {100, 99, 199, 100},
            {100, 100, 200, 100}, {100, 101, 200, 100}, {99, 0, 99, 99}, {100, 0, 100, 100}, {101, 0, 101, 100}, {50, 49, 99, 99},
            {50, 50, 100, 100}, {50, 51, 101, 100}, {0, 0, 0, 0}};
        for (int[] s : sums) {
            StringBuilder law = new StringBuilder("drop 0");
            for (String kind : new String[] {"bring ", "drop ", "pick ", "sweep "}) {
                law.append(";").append(kind).append(s[0]).append(";").append(kind).append(s[1]);
            }
            rule(h, law.toString());
            due("BRINGS of " + s[0] + " and " + s[1], h.rule(0, 1, 0), s[2]);
            due("DROPS of " + s[0] + " and " + s[1], h.rule(0, 1, 1), s[3]);
            due("PICKS of " + s[0] + " and " + s[1], h.rule(0, 1, 2), s[3]);
            due("SWEEPS of " + s[0] + " and " + s[1], h.room(1, 6), s[3]);
        }
        sentence(12, "the sum of N of all LINES that hold");
        rule(h, "drop 70 if wet;drop 40;drop 40 if out");
        due("one that does not hold", h.rule(0, 0, 1), 80);
        due("two that do not hold", h.rule(0, 1, 1), 40);
    }

    /** As all is in a house of its own each time, for so many texts are more than an object is used for. */
    private static void holds(Make make, String condition, int person, int room, boolean want) {
        SandHouse h = make.one();
        rule(h, "bring 1 if " + condition + ";drop 2 if " + condition + ";pick 3 if " + condition);
        for (int what = 0; what < 3; what++) {
            due(condition + " of " + person + " in " + room + " by " + what, h.rule(person, room, what), want ? what + 1 : 0);
        }
    }

    private static SandHouse behindFour(int wet) {
        SandHouse h = houseOf(THREE + ";load 1 10;sand 2 0 15;sand 2 1 5", "");
        h.rounds(4);
        h.tool(1, 30);
        h.soak(1, wet);
        return h;
    }

    private static void comparisons() {
        sentence(12, "SUM < SUM | SUM > SUM: at both sides of equal");
        Make make = () -> behindFour(1);
        String[] facts = {"person", "room", "load", "here", "round", "part"};
        int[][] values = {{0, 0, 0, 0, 4, 0}, {1, 2, 10, 20, 4, 0}, {1, 1, 10, 0, 4, 30}};
        int[][] who = {{0, 0}, {1, 2}, {1, 1}};
        for (int i = 0; i < who.length; i++) {
            for (int f = 0; f < facts.length; f++) {
                int value = values[i][f];
                holds(make, facts[f] + " < " + (value + 1), who[i][0], who[i][1], true);
                holds(make, facts[f] + " < " + value, who[i][0], who[i][1], false);
                holds(make, facts[f] + " > " + value, who[i][0], who[i][1], false);
                holds(make, value + 1 + " > " + facts[f], who[i][0], who[i][1], true);
                if (value > 0) {
                    holds(make, facts[f] + " > " + (value - 1), who[i][0], who[i][1], true);
                }
            }
        }
        sentence(12, "part: PART of its TOOL (0 without); wet: the PERSON is");
        holds(make, "part < 1", 0, 0, true);
        holds(make, "wet", 1, 0, true);
        holds(make, "wet", 0, 0, false);
        holds(() -> behindFour(0), "wet", 1, 0, false);
        holds(() -> behindFour(99), "wet", 1, 0, true);
    }

    private static void joins() {
        sentence(12, "C: ALL { or ALL }; ALL: ATOM { and ATOM }; ATOM: not ATOM | ( C )");
        Make make = () -> houseOf(THREE);
        String[] ts = {"1 < 2", "1 > 2"};
        for (int bits = 0; bits < 16; bits++) {
            String a = ts[bits & 1];
            String b = ts[bits >> 1 & 1];
            String c = ts[bits >> 2 & 1];
            String d = ts[bits >> 3 & 1];
            boolean x = (bits & 1) == 0;
            boolean y = (bits & 2) == 0;
            boolean z = (bits & 4) == 0;
            boolean w = (bits & 8) == 0;
            holds(make, a + " or " + b + " and " + c + " or " + d, 0, 0, x || y && z || w);
            holds(make, a + " and " + b + " or " + c + " and " + d, 0, 0, x && y || z && w);
            holds(make, a + " and (" + b + " or " + c + ") and " + d, 0, 0, x && (y || z) && w);
            holds(make, "not " + a + " and not (" + b + " or " + c + ") or " + d, 0, 0, !x && !(y || z) || w);
            holds(make, "not not " + a + " and " + b + " and " + c + " and " + d, 0, 0, x && y && z && w);
            holds(make, a + " or " + b + " or " + c + " or not not not " + d, 0, 0, x || y || z || !w);
            // six deep, with something open at each level
            holds(make, a + " or (" + b + " and (" + c + " or (" + d + " and (" + a + " or (" + b + " and (" + c + " or 2+3 > 4))))))", 0, 0,
                x || y && (z || w && (x || y)));
        }
    }

    private static void sweepKnowsNobody() {
        sentence(7, "of sweep: person, load 0, not wet");
        SandHouse h = houseOf("room bed 1;room stone 1;person 0;load 0 50;wet 0 9;sand 0 0 4;tool 0 6", "sweep 10 if person > 0");
        due("person 0", h.room(0, 6), 0);
        String[] facts = {"person < 1", "load < 1", "not wet", "here > 3 and here < 5", "part > 5 and part < 7", "room < 1", "bed", "round < 1"};
        for (String fact : facts) {
            rule(h, "sweep 10 if " + fact);
            due("SWEEPS if " + fact, h.room(0, 6), 10);
        }
        for (String fact : new String[] {"person > 0", "person < 0", "load > 0", "load < 0", "wet", "stone", "here > 4", "round > 0"}) {
            rule(h, "sweep 10 if " + fact);
            due("SWEEPS if " + fact, h.room(0, 6), 0);
        }
        sentence(7, "SWEEPS now");
        SandHouse now = houseOf("room stone 1;room bed 1;person 0;load 0 80", "drop 50;sweep 10 if here > 39;sweep 5 if round > 0;sweep 20 if part > 0");
        due("SWEEPS ahead of a ROUND", now.room(0, 6), 0);
        now.rounds(1);
        due("SWEEPS behind a ROUND", now.room(0, 6), 15);
        due("SWEEPS of the other behind a ROUND", now.room(1, 6), 5);
        now.sweep(0);
        due("SWEEPS behind a sweeping", now.room(0, 6), 5);
        now.tool(1, 1);
        due("SWEEPS with a TOOL", now.room(1, 6), 25);
        sentence(7, "SWEEPS without any PERSON");
        SandHouse alone = houseOf("room bed 1", "sweep 7 if person + load < 1 and not wet");
        due("SWEEPS", alone.room(0, 6), 7);
        due("sweep", alone.sweep(0), 0);
    }

    private static void withoutALaw() {
        sentence(12, "Without a text: BRINGS 50 out, else 0; DROPS 20; PICKS 5; SWEEPS 50");
        SandHouse h = houseOf("room out 1;room stone 1;room carpet 1;room bed 1;room drain 1;person 3;wet 0 5;load 0 9999");
        for (int room = 0; room < 5; room++) {
            due("SORT of " + room, h.room(room, 0), room);
            due("BRINGS in " + room, h.rule(0, room, 0), room == 0 ? 50 : 0);
            due("DROPS in " + room, h.rule(0, room, 1), 20);
            due("PICKS in " + room, h.rule(0, room, 2), 5);
            due("SWEEPS in " + room, h.room(room, 6), 50);
        }
        tape(h, "drop");
        refused("a wrong law", ILLEGAL, h::law);
        due("still without: LINES", h.count(4), -1);
        due("still without: DROPS", h.rule(0, 0, 1), 20);
        rule(h, "");
        due("with a law of no LINE", h.rule(0, 0, 1), 0);
    }

    private static void faults() {
        sentence(6, "The first wrong byte of the latest text that was read; NONE without one, and ahead of any");
        SandHouse h = new SandHouse();
        due("ahead of any", h.fault(), -1);
        tape(h, "clog x");
        due("ahead of reading", h.fault(), -1);
        refused("house", ILLEGAL, h::house);
        due("of the house", h.fault(), 5);
        tape(h, "drop 5 x");
        due("of the one before", h.fault(), 5);
        refused("law", ILLEGAL, h::law);
        due("of the law", h.fault(), 7);
        tape(h, "z");
        refused("noon", ILLEGAL, h::noon);
        due("noon reads no text", h.fault(), 7);
        tape(h, "");
        h.noon();
        due("nor does a right noon", h.fault(), 7);
        h.rounds(1);
        h.undo();
        due("undo leaves it", h.fault(), 7);
        h.image();
        rule(h, "drop 5");
        due("none in a right law", h.fault(), -1);
        h.back();
        due("back leaves it", h.fault(), -1);
        tape(h, "x");
        refused("house again", ILLEGAL, h::house);
        due("at 0", h.fault(), 0);
        h.back();
        due("back leaves it at 0", h.fault(), 0);
        tell(h, "clog 1");
        due("none in a right house", h.fault(), -1);
    }
}
