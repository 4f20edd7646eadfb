import java.math.BigInteger;

/** The calls' own bounds, promise by promise: the last argument that is still such a one, the first that isn't, on both sides. */
public final class CallBoundaryTests extends Due {
    private static final int MIN = Integer.MIN_VALUE;
    private static final int MAX = Integer.MAX_VALUE;
    private static final long ERROR = Long.MIN_VALUE;
    // Row 0: aa.. row 1: ...b row 2: ...b.
    private static final String TWO = "room 3 4;screen a 0 0 0 2 0;screen b 2 1 3 2 1;folk x 10 1 0 0;folk y 20 2 2 2;";
    private static final String FULL = "room 8 8;screen a 0 0 0 4 0;screen b 1 1 0 4 0;screen c 2 2 0 4 0;screen d 3 3 0 4 0;"
        + "screen e 0 4 0 4 0;folk a 1 0 0 0;folk b 1 1 0 1;folk c 1 2 0 2;folk d 1 3 0 3;folk e 1 4 0 0;folk f 1 7 7 0;";
    private static final int[] NO_FOLK_OF_TWO = {MIN, -1, 2, 6, 32, MAX};
    private static final int[] NO_SCREENS_OF_TWO = {MIN, -1, 2, 5, 32, MAX};

    private static int[] outside(int most) {
        return new int[] {MIN, -1, most + 1, MAX, most + 257, -256};
    }

    private static void newObject() {
        about = "1: A TEXT without LINES; an empty TAPE";
        ScreenRoom room = new ScreenRoom();
        int[] counts = {0, 0, 4, 4, 0, 0, 0, 0, 0, 0, 16, 0, 0, 0, 0};
        for (int what = 0; what < 15; what++) due("count " + what, room.count(what), counts[what]);
        due("one byte", room.text(1), -2);
        due("no byte", room.text(0), 0);
        due("no fault", room.fault(0), 0);
        due("no place", room.fault(1), -1);
        for (int season = 0; season < 4; season++) due("cells of " + season, room.ofSeason(season), 0);
        due("cells of 4", room.ofSeason(4), 16);
        due("nobody", thrown(room, 0, 0), 1);
        due("no screen", room.screen(0, 0), -1);
        due("law 0", room.law(0, 0), ERROR);
        due("law 1", room.law(1, 0), ERROR);
        due("law 2", room.law(2, 0), ERROR);
        due("carry", room.carry(0, 0, 0), false);
        due("turn", room.turn(0), false);
        due("mend", room.mend(0), -1);
        due("step", room.step(0, 0), -1);
        due("ahead folk", room.ahead(1, 0, 0), -1);
        due("ahead refused", room.ahead(99, 2, 0), 0);
        due("ahead whole", room.ahead(99, 3, 0), 0);
        due("ahead cells", room.ahead(99, 4, 4), 16);
        due("steps", room.steps(0, 0, 0), -1);
        due("young", room.young(0, 0, 0), -1);
        due("stand", room.stand(0, 0), -1);
        due("worth", room.worth(0), MIN);
        due("rests", room.rests(0, 1), -1);
        due("rest", room.rest(0, 1, 0), -1);
        due("holds", room.holds(0, 0, 0), -1);
        due("meet", room.meet(0, 1, 0), -1);
        due("needed", room.needed(), 0);
        due("next to", room.nextTo(0), -1);
        due("painted", room.painted(0), -1);
        due("chance of 0", room.chance(0, 99, 0), 10);
        due("chance of 1", room.chance(0, 99, 1), 0);
        due("tried", room.tried(5, 0, 99), 0);
        due("tried without a screen", room.tried(2, 0, 99), -1);
        due("undo", room.undo(), -1);
        due("back", room.back(), -1);
        due("seen", room.see(40, 3, 3, 4, true), 0);
        due("keep", room.keep(), 0);
        due("hours", room.go(99), 99);
    }

    private static void fiveHundredCalls() {
        about = "at most 512 calls";
        ScreenRoom room = new ScreenRoom();
        for (int k = 1; k <= 511; k++) due("go " + k, room.go(19), 19 * k);
        due("the 512th", room.go(99), 9709 + 99);
        ScreenRoom told = told("screen a 0 0 0 1 0;folk x 0 1 1 0;");
        for (int k = 0; k < 500; k++) due("turned " + k, told.turn(0), true);
        due("20 of them", told.count(14), 20);
    }

    private static void feeding() {
        about = "2: not more than 700";
        ScreenRoom room = new ScreenRoom();
        for (int k = 1; k <= 35; k++) due("feed", room.feed(0x20202020, 0x20202020, 0x20202020, 0x20202020, 0x20202020), 20 * k);
        for (int k = 0; k < 3; k++) due("too many", room.feed(0x21212121, 0x21212121, 0x21212121, 0x21212121, 0x21212121), -1);
        due("701", room.text(701), -2);
        due("none came", room.text(700), 0);
        due("empty", room.text(1), -2);
        for (int k = 1; k <= 35; k++) due("feed again", room.feed(0, 0, 0, 0, 0), 20 * k);
        due("too many again", room.feed(0, 0, 0, 0, 0), -1);
        about = "2: four of each number, the highest first";
        for (int at = 0; at < 20; at++) {
            for (int sign : new int[] {255, 128, 127, 0}) {
                int[] five = {0x20202020, 0x20202020, 0x20202020, 0x20202020, 0x20202020};
                int shift = 24 - at % 4 * 8;
                five[at / 4] = five[at / 4] & ~(255 << shift) | sign << shift;
                ScreenRoom one = new ScreenRoom();
                one.feed(0x20202020, 0x20202020, 0x20202020, 0x20202020, 0x20202020);
                due("feed", one.feed(five[0], five[1], five[2], five[3], five[4]), 40);
                due("sign " + sign + " at " + at, one.text(40), -1);
                due("its place", one.fault(1), 20 + at);
            }
        }
        ScreenRoom first = new ScreenRoom();
        first.feed(0x6d6f7468, 0x20313030, 0x3b000000, -1, -1);
        due("moth 100;", first.text(9), 1);
    }

    private static void texts() {
        about = "3: -2, there are not so many, n is below 0";
        ScreenRoom room = new ScreenRoom();
        feed(room, "moth 1;");
        for (int n : new int[] {21, 22, 40, 700, 701, MAX, -1, -2, -20, MIN}) due("text " + n, room.text(n), -2);
        due("the tape stays", room.feed(0x20202020, 0x20202020, 0x20202020, 0x20202020, 0x20202020), 40);
        due("all of it", room.text(40), 1);
        due("empty then", room.text(1), -2);
        due("no byte", room.text(0), 0);
        about = "3: the TAPE's first n bytes (it is empty then)";
        feed(room, "moth 1;moth 2;!");
        due("7", room.text(7), 1);
        due("empty", room.text(1), -2);
        feed(room, "moth 1;moth 2;!");
        due("0", room.text(0), 0);
        due("empty", room.text(1), -2);
        feed(room, "moth 1;moth 2;!");
        due("with a fault", room.text(8), -1);
        due("empty", room.text(1), -2);
        due("from the first one on", room.feed(0x6d6f7468, 0x20313b20, 0x20202020, 0x20202020, 0x20202020), 20);
        due("text", room.text(20), 1);
        about = "3: how many LINES";
        due("none", tell(room, "  "), 0);
        String many = repeated("carry a 0 0 0;", 10) + repeated("step a 0 0;", 12);
        due("39", tell(room, FULL + many + "moth 1;seed 1;law pay 1;law cut 1;law ageing 1;"), 39);
        about = "3: HOUR 0, all leaves WHOLE, nothing DONE, SEEN, all KNOWN, no IMAGE, nothing to undo then";
        String eaten = "screen a 0 0 0 4 0;folk x 9 1 1 0;moth 100;step x 0 0;seed 5;";
        ScreenRoom used = told(eaten);
        used.see(1, 0, 0, 0, true);
        used.known(0);
        used.go(25);
        used.keep();
        used.mend(0);
        due("text", tell(used, eaten), 5);
        int[] counts = {1, 1, 4, 4, 0, 0, 4, 0, 0, 9, 12, 1, 0, 0, 0};
        for (int what = 0; what < 15; what++) due("count " + what, used.count(what), counts[what]);
        due("no image", used.back(), -1);
        due("nothing to undo", used.undo(), -1);
        used.see(1, 0, 0, 3, true);
        due("all known", used.painted(0), 8);
        about = "3: NONE with a FAULT, all stays";
        for (String faulty : new String[] {";", "room 8 8;moth 101;", "moth 1;seed 1;moth 1;", "folk x 0 0 0 0;carry x 0 0 0;",
            "screen b 3 0 0 4 0;law pay 1;law cut 1;law ageing 1;screen c 3 1 0 4 0;step c", "screen z 0 3 3 4 0;"}) {
            ScreenRoom stays = told("room 1 8;screen a 0 0 0 1 0;folk x 9 0 2 0;carry a 12 0 1;step x 11 1;moth 40;seed 1;"
                + "law pay 2+hour;law ageing 5;law cut 39;");
            stays.go(5);
            due("faulty", tell(stays, faulty), -1);
            due("screen", stays.named(0, letters("a")), 0);
            due("no other", stays.named(0, letters("b")), -1);
            due("folk", stays.named(1, letters("x")), 0);
            due("rows, columns", stays.count(2) * 10 + stays.count(3), 18);
            due("knots", stays.count(4), 5);
            due("hour", stays.count(5), 5);
            due("pay", stays.law(1, 0), 7);
            due("ageing", stays.law(0, 0), 5);
            due("cut", stays.law(2, 0), 39);
            due("moth", stays.holds(0, 1, 0), 3);
            due("done", stays.count(8), 2 + 3 + 4 + 5 + 6);
            stays.see(13, 0, 1, 3, true);
            due("painted", stays.painted(0), 8);
            stays.go(5);
            due("38 is below 39", stays.count(6), 0);
            stays.go(3);
            due("stepped", stays.folk(0, 2), 3);
            due("carried", stays.screen(0, 2), 1);
        }
        about = "3: numbers from the seed on";
        ScreenRoom once = told("screen a 0 0 0 4 0;moth 50;seed 5;");
        once.go(40);
        int whole = once.screen(0, 5);
        once.go(99);
        due("the same once more", tell(once, "screen a 0 0 0 4 0;moth 50;seed 5;"), 3);
        once.go(40);
        due("the same leaves", once.screen(0, 5), whole);
    }

    private static void faults() {
        about = "4: what 0, 1; NONE for another";
        ScreenRoom room = new ScreenRoom();
        for (int what : outside(1)) due("fault " + what, room.fault(what), -1);
        due("with one", tell(room, "room 9 9;"), -1);
        due("kind", room.fault(0), 2);
        due("place", room.fault(1), 5);
        for (int what : outside(1)) due("fault " + what, room.fault(what), -1);
        about = "4: of the latest text() that was not -2";
        due("-2", room.text(1), -2);
        due("kind", room.fault(0), 2);
        due("place", room.fault(1), 5);
        due("another", tell(room, ";"), -1);
        due("kind", room.fault(0), 1);
        due("place 0", room.fault(1), 0);
        due("none", room.text(0), 0);
        due("kind", room.fault(0), 0);
        due("place", room.fault(1), -1);
        due("-2", room.text(-1), -2);
        due("kind", room.fault(0), 0);
    }

    private static void names() {
        about = "5: 5 bits each, the first one highest of six, 0 behind the last one";
        ScreenRoom room = told("screen a 0 0 0 1 0;screen z 0 0 1 1 0;screen zzzzzz 0 0 2 1 0;screen aaaaaa 0 0 3 1 0;screen az 0 1 0 1 0;"
            + "folk b 0 0 0 0;folk zzzzzz 0 0 0 0;");
        String[] screens = {"a", "z", "zzzzzz", "aaaaaa", "az"};
        for (int k = 0; k < 5; k++) due(screens[k], room.named(0, letters(screens[k])), k);
        due("a", 1 << 25, letters("a"));
        due("zzzzzz", letters("zzzzzz"), 26 * 34636833);
        due("b", room.named(1, 2 << 25), 0);
        due("zzzzzz", room.named(1, 26 * 34636833), 1);
        due("a of folk", room.named(1, letters("a")), -1);
        for (int shift = 0; shift < 25; shift += 5) due("a behind a blank", room.named(0, 1 << shift), -1);
        due("a, blank, a", room.named(0, letters("a") | 1 << 15), -1);
        due("aaaaa", room.named(0, letters("aaaaa")), -1);
        for (int none : new int[] {0, -1, MIN, MAX, letters("a") | MIN, letters("a") | 1 << 30, letters("a") + 1, letters("zzzzzz") + 1}) {
            due("letters " + none, room.named(0, none), -1);
            due("letters " + none, room.named(1, none), -1);
        }
        for (int what : outside(1)) due("what " + what, room.named(what, letters("zzzzzz")), -1);
    }

    private static void folkAndScreens() {
        about = "6: no such one, no such what";
        ScreenRoom full = told(FULL);
        ScreenRoom two = told(TWO);
        due("the last one", full.folk(5, 1), 7);
        due("the first one", full.folk(0, 0), 1);
        for (int folk : outside(5)) due("folk " + folk, thrown(full, folk, 0), 1);
        for (int folk : NO_FOLK_OF_TWO) {
            due("folk " + folk, thrown(two, folk, 0), 1);
            due("folk " + folk + " and what", thrown(two, folk, 6), 1);
        }
        for (int what : outside(5)) due("what " + what, thrown(two, 1, what), 2);
        for (int what = 0; what <= 5; what++) due("what " + what, thrown(two, 1, what), 0);
        about = "7: no such ones";
        due("the last one", full.screen(4, 1), 4);
        for (int screen : outside(4)) due("screen " + screen, full.screen(screen, 0), -1);
        for (int screen : NO_SCREENS_OF_TWO) due("screen " + screen, two.screen(screen, 0), -1);
        for (int what : outside(5)) due("what " + what, two.screen(1, what), -1);
        due("the last what", two.screen(1, 5), 3);
        due("the first what", two.screen(1, 0), 2);
        about = "7: leaves that are WHOLE (bits, the first one lowest)";
        ScreenRoom eaten = told("room 8 4;screen a 0 0 0 1 0;screen b 0 1 0 4 0;moth 100;");
        int[] bits = {15, 14, 12, 8, 0, 0};
        for (int k = 0; k < 6; k++) {
            due("b behind " + k, eaten.screen(1, 5), bits[k]);
            due("a behind " + k, eaten.screen(0, 5), k == 0 ? 1 : 0);
            eaten.go(10);
        }
    }

    private static void cells() {
        String[] rooms = {"room 1 1;", "room 1 8;", "room 8 1;", "room 3 4;", "room 8 8;"};
        int[][] sizes = {{1, 1}, {1, 8}, {8, 1}, {3, 4}, {8, 8}};
        for (int k = 0; k < rooms.length; k++) {
            ScreenRoom room = told(rooms[k] + "screen a 2 0 0 1 0;folk x 0 0 0 2;");
            int rows = sizes[k][0];
            int columns = sizes[k][1];
            about = "8, 9, 17, 18, 28: no such cell in " + rooms[k];
            int[][] out = {{-1, 0}, {0, -1}, {rows, 0}, {0, columns}, {rows, columns}, {-1, -1}, {MIN, 0}, {0, MIN}, {MAX, 0}, {0, MAX},
                {rows - 1, columns}, {rows, columns - 1}, {-1, columns - 1}, {rows - 1, -1}};
            for (int[] cell : out) {
                String at = cell[0] + ", " + cell[1];
                due("season " + at, room.season(cell[0], cell[1]), -1);
                due("leaf " + at, room.leaf(cell[0], cell[1]), -1);
                due("steps " + at, room.steps(0, cell[0], cell[1]), -1);
                due("young " + at, room.young(0, cell[0], cell[1]), -1);
                due("see " + at, room.see(1, cell[0], cell[1], 0, true), -1);
            }
            due("nothing seen", room.count(12), 0);
            int last = rows == 1 && columns == 1 ? 0 : -2;
            due("season of the last", room.season(rows - 1, columns - 1), 2);
            due("leaf of the last", room.leaf(rows - 1, columns - 1), last);
            due("steps to the last", room.steps(0, rows - 1, columns - 1), rows + columns - 2);
            due("young to the last", room.young(0, rows - 1, columns - 1), 0);
            due("seen in the last", room.see(1, rows - 1, columns - 1, 0, true), 0);
            due("cells", room.ofSeason(2), rows * columns);
            due("free", room.count(10), rows * columns - 1);
        }
        about = "9: a WHOLE one; -2: none";
        ScreenRoom eaten = told("room 2 4;screen a 0 0 0 4 0;screen b 1 1 0 4 0;law cut 100*(season=1);");
        eaten.go(20);
        int[] leaves = {-2, -2, 1, 1};
        for (int column = 0; column < 4; column++) {
            due("a's", eaten.leaf(0, column), 0);
            due("b's", eaten.leaf(1, column), leaves[column]);
        }
        about = "20: no such SEASON 0 .. 4";
        for (int season : outside(4)) due("season " + season, eaten.ofSeason(season), -1);
        int sum = 0;
        for (int season = 0; season <= 4; season++) sum += eaten.ofSeason(season);
        due("all cells", sum, 8);
    }

    private static void laws() {
        about = "10: no such law, no such ones";
        ScreenRoom all = told(TWO + "law ageing 7;law pay 8;law cut 9;");
        for (int which = 0; which < 2; which++) {
            due("ageing", all.law(0, which), 7);
            due("pay", all.law(1, which), 8);
            due("cut", all.law(2, which), 9);
            for (int what : outside(2)) due("what " + what, all.law(what, which), ERROR);
        }
        for (int none : NO_FOLK_OF_TWO) {
            due("ageing of " + none, all.law(0, none), ERROR);
            due("pay of " + none, all.law(1, none), ERROR);
        }
        for (int none : NO_SCREENS_OF_TWO) due("cut of " + none, all.law(2, none), ERROR);
        ScreenRoom three = told(TWO + "folk z 0 0 0 0;law ageing 7;law pay 8;law cut 9;");
        due("a third of folk", three.law(0, 2), 7);
        due("no third screen", three.law(2, 2), ERROR);
        String[] rules = {"ageing", "pay", "cut"};
        for (int told = 0; told < 3; told++) {
            ScreenRoom one = told(TWO + "law " + rules[told] + " 5;");
            for (int what = 0; what < 3; what++) due("law " + what, one.law(what, 0), what == told ? 5 : ERROR);
        }
        about = "10: an ERROR";
        ScreenRoom wrong = told(TWO + "law ageing 1/0;law pay 1/0;law cut 1/0;");
        for (int what = 0; what < 3; what++) due("law " + what, wrong.law(what, 0), ERROR);
        about = "10: the law's E, also beyond its bounds";
        ScreenRoom beyond = told(TWO + "law ageing 10;law pay 0-1;law cut 101;");
        due("ageing", beyond.law(0, 0), 10);
        due("pay", beyond.law(1, 0), -1);
        due("cut", beyond.law(2, 0), 101);
    }

    private static void carrying() {
        about = "11: in the room (as in (1))";
        for (int column = 0; column < 4; column++) {
            due("along to " + column, told("room 2 4;screen a 0 1 0 3 0;").carry(0, 0, column), column < 2);
            due("down to " + column, told("room 4 2;screen a 0 0 1 3 1;").carry(0, column, 0), column < 2);
        }
        ScreenRoom room = told(TWO);
        for (int far : new int[] {MIN, -1, 3, 4, 8, MAX, MAX - 1}) {
            due("row " + far, room.carry(0, far, 0), false);
            due("column " + far, room.carry(0, 2, far == 4 ? 5 : far), false);
        }
        due("the last that fits", room.carry(0, 2, 1), true);
        due("one on, b is there", room.carry(0, 2, 2), false);
        due("it is there", room.carry(0, 2, 1), false);
        due("b over its own leaf", room.carry(1, 0, 3), true);
        for (int none : NO_SCREENS_OF_TWO) due("screen " + none, room.carry(none, 0, 0), false);
        due("what was carried", room.count(14), 2);
        due("a", room.screen(0, 1) * 10 + room.screen(0, 2), 21);
        due("b", room.screen(1, 1) * 10 + room.screen(1, 2), 3);
        due("not refused", room.count(7), 0);
        due("onto folk", room.carry(0, 1, 0), true);
        due("its leaf is there", room.leaf(1, 1), 0);
        due("no leaf is where it was", room.leaf(2, 1), -2);
        due("b's leaf", room.leaf(0, 3), 1);
        due("season", room.season(2, 3), 2);
        about = "12: it doesn't fit so";
        for (int row = 0; row < 4; row++) {
            for (int leaves = 1; leaves <= 4; leaves++) {
                String text = "screen a 0 " + row + " 0 " + leaves + " 0;";
                due("down " + text, told(text).turn(0), row + leaves <= 4);
                String other = "screen a 0 0 " + row + " " + leaves + " 1;";
                due("along " + other, told(other).turn(0), row + leaves <= 4);
            }
        }
        for (int row = 0; row < 4; row++) {
            due("b in row " + row, told("screen a 0 0 0 3 0;screen b 1 " + row + " 3 1 0;screen c 1 3 0 1 0;").turn(0), true);
            if (row > 0) due("b below in row " + row, told("screen a 0 0 0 3 0;screen b 1 " + row + " 0 1 0;").turn(0), row == 3);
        }
        ScreenRoom eaten = told("screen a 0 0 0 2 0;screen b 1 1 0 1 0;law cut 100*(season=1);");
        eaten.go(10);
        due("a cut leaf is in the way", eaten.turn(0), false);
        for (int none : NO_SCREENS_OF_TWO) due("screen " + none, room.turn(none), false);
    }

    private static void mending() {
        about = "13: -2: none is CUT; NONE: no such SCREEN";
        ScreenRoom room = told("screen a 1 0 0 4 0;screen b 1 1 0 1 0;law cut 100*(season=1)*(near<4);");
        due("none is cut", room.mend(0), -2);
        for (int none : NO_SCREENS_OF_TWO) due("screen " + none, room.mend(none), -1);
        due("nothing to undo", room.count(14), 0);
        room.go(20);
        due("two are cut", room.screen(0, 5), 12);
        due("three are whole", room.mend(0), 3);
        due("the first", room.screen(0, 5), 13);
        room.go(99);
        due("all are cut", room.screen(0, 5), 0);
        for (int whole = 1; whole <= 4; whole++) {
            due("mended", room.mend(0), whole);
            due("from the first on", room.screen(0, 5), (1 << whole) - 1);
            due("season", room.season(3, 3), 1);
        }
        due("none is cut", room.mend(0), -2);
        due("one of one", room.mend(1), 1);
        due("none is cut", room.mend(1), -2);
        due("what can be undone", room.count(14), 5);
    }

    private static void stepping() {
        about = "14: -2: it would be REFUSED; NONE: no such ones";
        ScreenRoom one = told("room 1 1;folk x 5 0 0 0;");
        for (int way = 0; way < 4; way++) due("way " + way, one.step(0, way), -2);
        for (int way : outside(3)) due("way " + way, one.step(0, way), -1);
        ScreenRoom two = told(TWO);
        for (int none : NO_FOLK_OF_TWO) {
            due("folk " + none, two.step(none, 0), -1);
            due("folk " + none + " and way", two.step(none, 4), -1);
        }
        due("into a leaf", two.step(0, 0), -2);
        due("not counted", two.count(7), 0);
        due("nothing to undo", two.count(14), 0);
        due("stays", two.folk(0, 1) * 10 + two.folk(0, 2), 10);
        ScreenRoom walk = told("room 8 8;folk x 5 0 0 0;");
        int[] ways = {1, 2, 3, 0};
        for (int way : ways) {
            for (int k = 0; k < 7; k++) due("way " + way, walk.step(0, way), 5);
            due("the wall", walk.step(0, way), -2);
        }
        due("round the room", walk.folk(0, 1) * 10 + walk.folk(0, 2), 0);
    }

    private static void going() {
        about = "15: 0 .. 99";
        ScreenRoom room = new ScreenRoom();
        due("0", room.go(0), 0);
        for (int n : outside(99)) due("go " + n, room.go(n), -1);
        due("none does", room.count(5), 0);
        due("99", room.go(99), 99);
        due("1", room.go(1), 100);
        for (int n : outside(99)) due("go " + n, room.go(n), -1);
        about = "15: behind 9900";
        for (int k = 0; k < 98; k++) room.go(99);
        due("9802", room.count(5), 9802);
        due("9901", room.go(99), -1);
        due("none does", room.count(5), 9802);
        due("9900", room.go(98), 9900);
        for (int n : new int[] {1, 2, 10, 99, 100, MAX}) due("go " + n, room.go(n), -1);
        due("0", room.go(0), 9900);
        due("kept", room.keep(), 9900);
        due("back", room.back(), 9900);
        ScreenRoom even = new ScreenRoom();
        for (int k = 1; k <= 100; k++) due("go", even.go(99), 99 * k);
        due("9901", even.go(1), -1);
    }

    private static void ahead() {
        about = "16: n 0 .. 99; no such ones";
        ScreenRoom room = told(TWO + "step x 99 3;step x 98 3;");
        for (int n : outside(99)) for (int what = 0; what < 5; what++) due("n " + n, room.ahead(n, what, 0), -1);
        for (int what : outside(4)) due("what " + what, room.ahead(1, what, 0), -1);
        for (int none : NO_FOLK_OF_TWO) {
            due("age of " + none, room.ahead(1, 0, none), -1);
            due("done of " + none, room.ahead(1, 1, none), -1);
        }
        for (int none : outside(4)) due("cells of " + none, room.ahead(1, 4, none), -1);
        for (int any : new int[] {MIN, -1, 0, 5, MAX}) {
            due("refused, whatever i", room.ahead(99, 2, any), 1);
            due("whole, whatever i", room.ahead(99, 3, any), 4);
        }
        due("now", room.ahead(0, 1, 0), 0);
        due("one", room.ahead(1, 1, 0), 1);
        due("99", room.ahead(99, 1, 0), 99);
        due("98 hours", room.ahead(98, 2, 0), 0);
        due("cells of 4", room.ahead(99, 4, 4), 0);
        due("cells of 0", room.ahead(99, 4, 0), room.ofSeason(0));
        due("age", room.ahead(0, 0, 1), 20);
        room.go(99);
        due("refused more", room.ahead(1, 2, 0), 1);
        room.go(1);
        due("both refused", room.count(7), 2);
        due("none more", room.ahead(99, 2, 0), 0);
        for (int k = 0; k < 98; k++) room.go(99);
        room.go(98);
        due("ahead of 9900", room.ahead(99, 1, 0), 9999);
    }

    private static void ways() {
        about = "17, 18: 0: it is there; -2: there is no way";
        for (int row = 0; row < 3; row++) {
            ScreenRoom wall = told("room 3 3;screen a 0 0 1 3 1;folk x 0 " + row + " 0 0;folk y 0 " + row + " 1 0;");
            for (int to = 0; to < 3; to++) {
                due("its side", wall.steps(0, to, 0), Math.abs(to - row));
                due("a leaf", wall.steps(0, to, 1), -2);
                due("the other side", wall.steps(0, to, 2), -2);
                due("young, its side", wall.young(0, to, 0), 0);
                due("young, a leaf", wall.young(0, to, 1), -2);
                due("young, the other side", wall.young(0, to, 2), -2);
                due("from a leaf", wall.steps(1, to, 2), Math.abs(to - row) + 1);
                due("along its leaves", wall.steps(1, to, 1), to == row ? 0 : -2);
                due("young along its leaves", wall.young(1, to, 1), to == row ? 0 : -2);
            }
        }
        ScreenRoom two = told(TWO);
        for (int none : NO_FOLK_OF_TWO) {
            due("steps of " + none, two.steps(none, 0, 0), -1);
            due("young of " + none, two.young(none, 0, 0), -1);
        }
        // The second row is a wall but for its last cell.
        ScreenRoom maze = told("room 4 8;screen a 0 1 0 4 0;screen b 0 1 4 3 0;folk x 0 0 0 0;");
        due("round the walls", maze.steps(0, 2, 0), 7 + 2 + 7);
        about = "17: a CUT leaf is no hindrance";
        ScreenRoom eaten = told("room 1 3;screen a 0 0 1 1 0;folk x 0 0 0 0;moth 100;");
        due("whole", eaten.steps(0, 0, 2), -2);
        eaten.go(10);
        due("cut", eaten.steps(0, 0, 2), 2);
        due("cut", eaten.young(0, 0, 2), 0);
        about = "18: of all ways there";
        ScreenRoom star = told("room 3 3;screen a 0 0 0 1 0;screen b 1 2 2 1 0;folk x 0 1 1 0;");
        due("all of season 0 but three", star.ofSeason(1), 3);
        due("up", star.young(0, 0, 1), 0);
        due("left", star.young(0, 1, 0), 0);
        due("right", star.young(0, 1, 2), 1);
        due("down", star.young(0, 2, 1), 1);
        due("two to the left of the wall", told("room 1 3;folk x 0 0 2 0;").young(0, 0, 0), 0);
        // Straight on is one season on and back, 1 + 3; round it costs nothing.
        ScreenRoom round = told("room 3 5;screen a 0 0 0 1 0;screen b 0 0 4 1 0;screen c 1 2 2 1 0;folk x 0 2 4 0;");
        due("round it, to the left", round.young(0, 2, 0), 0);
        ScreenRoom through = told("room 1 7;screen a 0 0 0 1 0;screen b 3 0 6 1 0;folk x 0 0 1 0;folk y 0 0 5 0;");
        due("0 to 3", through.young(0, 0, 5), 3);
        due("3 to 0", through.young(1, 0, 1), 1);
        about = "18: modulo 4";
        for (int from = 0; from < 4; from++) {
            for (int to = 0; to < 4; to++) {
                ScreenRoom row = told("room 1 4;screen a " + from + " 0 0 1 0;screen b " + to + " 0 3 1 0;folk x 99 0 1 3;law ageing 1/0;");
                due(from + " to " + to, row.young(0, 0, 2), (to - from + 4) % 4);
            }
        }
    }

    private static void standing() {
        about = "19: no such ones";
        ScreenRoom two = told(TWO);
        for (int what : outside(3)) due("what " + what, two.stand(0, what), -1);
        for (int none : NO_SCREENS_OF_TWO) for (int what = 0; what < 4; what++) due("screen " + none, two.stand(none, what), -1);
        about = "19: where it fits now";
        // Only its own place is left for a, and all of it is taken by the four of a.
        ScreenRoom tight = told("room 2 2;screen a 1 0 0 1 0;screen b 2 0 1 2 1;screen c 3 1 0 1 0;");
        due("a", tight.stand(0, 0) * 100 + tight.stand(0, 1) * 10 + tight.stand(0, 2), 0);
        due("b", tight.stand(1, 0) * 100 + tight.stand(1, 1) * 10 + tight.stand(1, 2), 11);
        due("c", tight.stand(2, 0) * 100 + tight.stand(2, 1) * 10 + tight.stand(2, 2), 100);
        due("nobody", tight.stand(0, 3), 0);
        ScreenRoom single = told("room 1 1;screen a 1 0 0 1 1;folk x 0 0 0 1;");
        due("0 ahead of 1", single.stand(0, 2), 0);
        due("all", single.stand(0, 3), 1);
        about = "19: of several the first by ROWS, then COLUMNS, then 0 or 1";
        ScreenRoom several = told("room 3 3;screen a 1 2 0 3 0;folk x 0 2 2 1;folk y 0 2 2 2;");
        due("first", several.stand(0, 0) * 100 + several.stand(0, 1) * 10 + several.stand(0, 2), 0);
        due("one of two", several.stand(0, 3), 1);
        // b may have x only from (0,1) on: (0,0) is a's, and down from (0,1) comes behind along.
        ScreenRoom row = told("room 2 4;screen a 1 0 0 1 0;screen b 2 1 3 1 0;folk x 0 0 2 2;");
        due("b as near as a goes to a", row.stand(1, 0) * 100 + row.stand(1, 1) * 10 + row.stand(1, 2), 10);
        due("b has x", row.stand(1, 3), 1);
        about = "19: as far as another: the first one's SEASON";
        ScreenRoom tie = told("room 1 5;screen a 0 0 0 1 0;screen b 1 0 4 1 0;folk x 0 0 2 0;");
        due("a two from x, as b is", tie.stand(0, 1), 0);
        ScreenRoom second = told("room 1 5;screen a 0 0 0 1 0;screen b 1 0 4 1 0;folk x 0 0 3 0;");
        due("a one from x, as b is", second.stand(0, 1), 2);
        ScreenRoom behind = told("room 1 5;screen a 0 0 2 1 0;screen b 1 0 4 1 0;folk x 0 0 3 1;");
        due("b nearer than a only in x's cell", behind.stand(1, 1), 3);
        ScreenRoom leaves = told("room 1 5;screen a 0 0 2 1 0;screen b 1 0 3 1 0;folk x 0 0 3 1;");
        due("where it stands now is no more, if it stood elsewhere", leaves.stand(1, 1), 3);
        about = "19: none is WHOLE";
        ScreenRoom bare = told("room 1 2;screen a 1 0 1 1 0;folk x 0 0 0 1;moth 100;");
        bare.go(10);
        due("column", bare.stand(0, 1), 0);
        due("how many", bare.stand(0, 3), 0);
    }

    private static void worths() {
        about = "21: no such SCREEN";
        ScreenRoom two = told(TWO);
        for (int none : NO_SCREENS_OF_TWO) due("screen " + none, two.worth(none), MIN);
        ScreenRoom full = told(FULL);
        for (int none : outside(4)) due("screen " + none, full.worth(none), MIN);
        int sum = 0;
        for (int screen = 0; screen < 5; screen++) sum += full.worth(screen);
        due("all in sum: 120 rows of those who work", sum, 120 * full.count(11));
        due("nobody", told("screen a 0 0 0 1 0;").worth(0), 0);
        due("one row", told("screen a 0 0 0 1 0;folk x 0 3 3 0;").worth(0), 1);
        due("all six in one row", told("screen a 0 0 0 1 0;folk a 0 3 3 0;folk b 0 3 3 0;folk c 0 3 3 0;folk d 0 3 3 0;folk e 0 3 3 0;folk f 0 3 3 0;").worth(0), 6);
        ScreenRoom bare = told("screen a 0 0 0 1 0;folk x 0 3 3 0;moth 100;");
        bare.go(10);
        due("none is whole", bare.worth(0), 0);
        due("below 0", told("room 1 5;screen a 1 0 0 1 0;screen b 2 0 4 1 0;folk x 0 0 3 1;").worth(1), -1);
        about = "26: NEEDED";
        due("nobody", told("screen a 0 0 0 1 0;").needed(), 0);
        due("nobody works", told("screen a 0 0 0 1 0;folk x 0 0 0 1;").needed(), 0);
        due("all five", told("room 8 8;screen a 0 0 0 1 0;screen b 1 0 7 1 0;screen c 2 7 0 1 0;screen d 3 7 7 1 0;screen e 0 3 4 1 0;"
            + "folk a 0 0 0 0;folk b 0 0 7 1;folk c 0 7 0 2;folk d 0 7 7 3;folk e 0 3 4 0;folk f 0 4 4 0;").needed(), 31);
        due("the least of two pairs", told("room 1 8;screen a 0 0 1 1 0;screen b 0 0 0 1 0;screen c 1 0 7 1 0;folk x 0 0 0 0;folk y 0 0 2 1;folk z 0 0 7 1;").needed(), 5);
        due("the least bits", told("room 1 8;screen a 1 0 0 1 0;screen b 2 0 1 1 0;screen c 2 0 2 1 0;folk x 0 0 7 2;").needed(), 2);
        due("fewer ahead of less", told("room 1 8;screen a 1 0 0 1 0;screen b 1 0 1 1 0;screen c 1 0 7 1 0;folk x 0 0 0 1;folk y 0 0 7 1;").needed(), 1);
        ScreenRoom eaten = told("screen a 0 0 0 1 0;folk x 0 3 3 0;moth 100;");
        due("one", eaten.needed(), 1);
        eaten.go(10);
        due("none is whole, nobody works", eaten.needed(), 0);
    }

    private static void rests() {
        about = "22, 23: no such SCREENS, alike; k";
        ScreenRoom two = told(TWO);
        for (int none : NO_SCREENS_OF_TWO) {
            due("rests", two.rests(none, 0), -1);
            due("rests", two.rests(0, none), -1);
            due("rests, both", two.rests(none, none), -1);
            due("rest", two.rest(none, 0, 0), -1);
            due("rest", two.rest(0, none, 0), -1);
        }
        for (int one = 0; one < 2; one++) {
            due("alike", two.rests(one, one), -1);
            due("alike", two.rest(one, one, 0), -1);
        }
        int many = two.rests(0, 1);
        due("two", many, 2);
        due("the last", two.rest(0, 1, many - 1), 10);
        for (int k : new int[] {many, many + 1, 4, 32, MAX}) due("k " + k, two.rest(0, 1, k), -2);
        for (int k : new int[] {-1, -2, MIN}) due("k " + k, two.rest(0, 1, k), -1);
        due("alike, k below 0", two.rest(1, 1, -1), -1);
        about = "22: all four, in their order";
        ScreenRoom singles = told("room 2 2;screen a 0 0 0 1 0;screen b 1 1 1 1 0;");
        int[] pairs = {0, 1, 10, 11};
        due("four", singles.rests(0, 1), 4);
        for (int k = 0; k < 4; k++) due("k " + k, singles.rest(0, 1, k), pairs[k]);
        due("no fifth", singles.rest(0, 1, 4), -2);
        about = "22: turned, if it fits in the room by itself then";
        ScreenRoom low = told("room 3 6;screen a 0 1 0 3 0;screen b 1 0 5 3 1;");
        for (int k = 0; k < low.rests(0, 1); k++) due("neither may turn, k " + k, low.rest(0, 1, k), 0);
        due("one", low.rests(0, 1), 1);
        // Turned, a has four cells in place of three, c's leaf in one of them; b has two either way.
        ScreenRoom third = told("room 2 3;screen a 0 0 0 2 0;screen b 1 0 2 1 0;screen c 2 1 0 1 0;");
        due("another's leaf is no hindrance", third.rests(0, 1), 2);
        due("a is turned", third.rest(0, 1, 0), 10);
        due("a is turned", third.rest(0, 1, 1), 11);
        about = "22: leaves of both may be in one cell";
        // Turned, a has all six cells in place of five: b's leaf is in one of them.
        ScreenRoom both = told("room 2 3;screen a 0 0 0 2 0;screen b 1 1 0 1 0;");
        due("two", both.rests(0, 1), 2);
        due("a is turned", both.rest(0, 1, 0), 10);
        due("a is turned", both.rest(0, 1, 1), 11);
        due("the other way round", both.rest(1, 0, 0), 1);
    }

    private static void holding() {
        about = "24: n 0 .. 6; no such ones";
        ScreenRoom two = told(TWO + "moth 25;");
        for (int none : NO_SCREENS_OF_TWO) due("screen " + none, two.holds(none, 1, 0), -1);
        for (int n : outside(6)) due("n " + n, two.holds(0, n, 0), -1);
        for (int what : outside(1)) due("what " + what, two.holds(0, 1, what), -1);
        about = "24: in least terms";
        for (int moth : new int[] {0, 1, 2, 50, 98, 99, 100}) {
            ScreenRoom room = told("screen a 0 0 0 1 0;moth " + moth + ";");
            for (int n = 0; n <= 6; n++) {
                BigInteger above = BigInteger.valueOf(100 - moth).pow(n);
                BigInteger below = BigInteger.valueOf(100).pow(n);
                BigInteger shared = above.gcd(below);
                due("above, moth " + moth + " n " + n, room.holds(0, n, 0), above.divide(shared).longValueExact());
                due("below, moth " + moth + " n " + n, room.holds(0, n, 1), below.divide(shared).longValueExact());
            }
        }
        about = "24: 1, if none is WHOLE; by moth, whatever the law";
        ScreenRoom eaten = told("screen a 0 0 0 2 0;moth 50;law cut 100;");
        eaten.go(10);
        due("one is", eaten.holds(0, 6, 1), 64);
        eaten.go(10);
        due("none is", eaten.holds(0, 6, 1), 1);
        due("none is", eaten.holds(0, 6, 0), 1);
        eaten.mend(0);
        due("one is again", eaten.holds(0, 6, 1), 64);
        ScreenRoom sure = told("screen a 0 0 0 1 0;moth 100;");
        sure.go(10);
        due("1, not 0", sure.holds(0, 1, 0), 1);
    }

    private static void meeting() {
        about = "25: no such ones, alike; -2: there is no way";
        ScreenRoom two = told(TWO);
        for (int none : NO_FOLK_OF_TWO) {
            due("one", two.meet(none, 0, 0), -1);
            due("other", two.meet(0, none, 0), -1);
            due("both", two.meet(none, none, 0), -1);
        }
        due("alike", two.meet(1, 1, 0), -1);
        for (int what : outside(1)) due("what " + what, two.meet(0, 1, what), -1);
        ScreenRoom wall = told("room 1 3;screen a 0 0 1 1 0;folk x 0 0 0 0;folk y 0 0 2 0;folk z 0 0 1 0;");
        due("no way", wall.meet(0, 1, 0), -2);
        due("no way", wall.meet(0, 1, 1), -2);
        due("from the leaf", wall.meet(0, 2, 0), 1);
        due("in x's cell", wall.meet(2, 0, 1), 0);
        due("in y's cell", wall.meet(1, 2, 1), 2);
        ScreenRoom same = told("room 8 8;screen a 0 7 7 1 0;folk x 0 7 7 0;folk y 0 7 7 0;folk z 0 0 0 0;");
        due("in one cell", same.meet(0, 1, 0), 0);
        due("a leaf's", same.meet(0, 1, 1), 77);
        due("corners", same.meet(2, 0, 0), 14);
        due("the first cell", same.meet(2, 0, 1), 0);
        ScreenRoom leaves = told("room 1 2;screen a 0 0 0 2 0;folk x 0 0 0 0;folk y 0 0 1 0;");
        due("both on leaves", leaves.meet(0, 1, 0), -2);
        about = "25: the first such cell by ROWS, COLUMNS";
        due("(0,1) ahead of (1,0)", told("room 2 2;folk x 0 0 1 0;folk y 0 1 0 0;").meet(0, 1, 1), 0);
        due("(0,0) has a leaf", told("room 2 2;screen a 0 0 0 1 0;folk x 0 0 1 0;folk y 0 1 0 0;").meet(0, 1, 1), 1);
        about = "27: one step away or in its cell";
        ScreenRoom near = told("room 8 8;folk x 0 3 3 0;folk y 0 3 3 0;");
        due("in its cell", near.nextTo(0), 2);
        int[][] places = {{2, 3}, {4, 3}, {3, 2}, {3, 4}, {2, 2}, {4, 4}, {2, 4}, {4, 2}, {1, 3}, {5, 3}, {3, 1}, {3, 5}, {0, 0}, {7, 7}};
        for (int k = 0; k < places.length; k++) {
            ScreenRoom room = told("room 8 8;folk y 0 " + places[k][0] + " " + places[k][1] + " 0;folk x 0 3 3 0;");
            due("place " + k, room.nextTo(1), k < 4 ? 1 : 0);
            due("place " + k + ", the other way", room.nextTo(0), k < 4 ? 2 : 0);
        }
        due("the next row's first", told("room 8 8;folk x 0 0 7 0;folk y 0 1 0 0;").nextTo(0), 0);
        due("all others", told("folk a 0 1 1 0;folk b 0 1 1 0;folk c 0 0 1 0;folk d 0 2 1 0;folk e 0 1 0 0;folk f 0 1 2 0;").nextTo(0), 62);
        due("nobody", told("folk a 0 1 1 0;").nextTo(0), 0);
        for (int none : NO_FOLK_OF_TWO) due("folk " + none, two.nextTo(none), -1);
    }

    private static void seeing() {
        about = "28: no such ones, or there are 24";
        ScreenRoom room = told(TWO);
        for (int hours : new int[] {MIN, -1, 0, 41, 99, MAX}) due("hours " + hours, room.see(hours, 0, 0, 0, true), -1);
        for (int season : outside(4)) due("season " + season, room.see(1, 0, 0, season, true), -1);
        due("none", room.count(12), 0);
        due("hours 1", room.see(1, 0, 0, 0, true), 0);
        due("hours 40", room.see(40, 0, 0, 4, false), 1);
        about = "29: no such one, or there are 24";
        for (int seen : new int[] {MIN, -1, 2, 3, 24, MAX}) due("seen " + seen, room.out(seen), -1);
        due("the first", room.out(0), 2);
        due("itself", room.out(3), -1);
        due("the last", room.out(2), 3);
        for (int k = 4; k < 23; k++) due("see", room.see(40, 0, 0, 0, true), k);
        due("the 24th", room.out(22), 23);
        due("a 25th", room.see(1, 0, 0, 0, true), -1);
        due("a 25th", room.out(0), -1);
        due("24", room.count(12), 24);
        about = "30: no such n";
        for (int n : new int[] {MIN, -2, 25, 32, MAX}) due("known by " + n, room.known(n), false);
        due("by all still", room.count(13), 24);
        for (int n = 0; n <= 24; n++) {
            due("known by " + n, room.known(n), true);
            due("by", room.count(13), n);
        }
        due("known by 25", room.known(25), false);
        due("by 24 still", room.count(13), 24);
        due("by all", room.known(-1), true);
        ScreenRoom empty = told(TWO);
        due("by 0 of 0", empty.known(0), true);
        due("by 1 of 0", empty.known(1), false);
        empty.see(1, 0, 0, 3, true);
        due("not by those to come", empty.painted(0), 15);
        due("0", empty.count(13), 0);
        due("by all, also those to come", empty.known(-1), true);
        due("1", empty.count(13), 1);
        empty.see(1, 0, 1, 3, false);
        due("2", empty.count(13), 2);
        due("neither may be", empty.painted(0), 0);
        about = "31: no such SCREEN";
        for (int none : NO_SCREENS_OF_TWO) due("screen " + none, empty.painted(none), -1);
        due("all, if nothing was seen", told(TWO).painted(1), 15);
    }

    private static void painting() {
        about = "SEEN: behind so many HOURS 1 .. 40";
        // a is carried to the other end in hour 39: behind 39 hours not yet, behind 40 it is.
        String text = "room 1 8;screen a 0 0 0 1 0;screen b 1 0 4 1 0;carry a 39 0 7;carry a 0 0 1;";
        for (int hours : new int[] {1, 39, 40}) {
            ScreenRoom room = told(text);
            room.see(hours, 0, 7, 3, true);
            due("behind " + hours, room.painted(0), hours == 40 ? 8 : 0);
            room.out(0);
            room.see(hours, 0, 0, 3, true);
            due("the first cell behind " + hours, room.painted(0), hours == 40 ? 0 : 8);
        }
        about = "SEEN: a SEASON 0 .. 4, or hadn't";
        for (int season = 0; season <= 4; season++) {
            ScreenRoom had = told("screen a 0 0 0 1 0;");
            had.see(1, 3, 3, season, true);
            due("had " + season, had.painted(0), season == 4 ? 0 : 1 << season);
            ScreenRoom not = told("screen a 0 0 0 1 0;");
            not.see(1, 3, 3, season, false);
            due("hadn't " + season, not.painted(0), season == 4 ? 15 : 15 & ~(1 << season));
        }
        about = "what strikes may be STRUCK: then it doesn't count";
        for (int strikes = 0; strikes <= 23; strikes++) {
            ScreenRoom room = told("screen a 0 0 0 1 0;");
            room.see(1, 3, 3, 2, true);
            for (int k = 0; k < strikes; k++) room.out(k);
            due("each strikes the one ahead of it, " + strikes, room.painted(0), strikes % 2 == 0 ? 4 : 15);
        }
        ScreenRoom twice = told("screen a 0 0 0 1 0;");
        twice.see(1, 3, 3, 2, true);
        twice.out(0);
        twice.out(0);
        twice.out(1);
        due("struck by the other one", twice.painted(0), 15);
        twice.out(2);
        due("by neither", twice.painted(0), 4);
        twice.known(4);
        due("by four", twice.painted(0), 15);
        twice.known(1);
        due("by one", twice.painted(0), 4);
        about = "3: nothing SEEN then";
        ScreenRoom stale = told("screen a 0 0 0 1 0;");
        for (int k = 0; k < 24; k++) stale.see(1, 3, 3, 2, true);
        due("seen", stale.painted(0), 4);
        due("again", tell(stale, "screen a 0 0 0 1 0;"), 1);
        due("nothing", stale.painted(0), 15);
        due("one", stale.see(1, 3, 3, 1, true), 0);
        due("that one", stale.painted(0), 2);
        due("struck", stale.out(0), 1);
        due("nothing is left", stale.painted(0), 15);
        about = "as it goes from the TEXT on, nothing done by call";
        ScreenRoom called = told("room 1 8;screen a 0 0 0 1 0;screen b 1 0 4 1 0;");
        called.see(1, 0, 1, 2, true);
        called.carry(0, 0, 7);
        called.go(30);
        called.keep();
        due("a at (0,0)", called.painted(0), 4);
    }

    private static void chances() {
        about = "32: no such ones";
        ScreenRoom full = told(FULL + "moth 50;");
        for (int seed : new int[] {-1, -2, MIN}) due("seed " + seed, full.chance(seed, 1, 0), -1);
        for (int n : new int[] {MIN, -1, 0, 100, MAX}) due("n " + n, full.chance(0, n, 0), -1);
        for (int whole : outside(20)) due("whole " + whole, full.chance(0, 1, whole), -1);
        due("seed 0", full.chance(0, 1, 20), 10);
        due("seed 2147483647", full.chance(MAX, 9, 20), 10);
        due("n 99", full.chance(MAX, 99, 0), 10);
        about = "32: of ten times drawn, one behind another";
        for (int seed : new int[] {0, 1, 99999, 1 << 30, MAX - 1, MAX}) {
            for (int moth : new int[] {1, 30, 50, 70, 99}) {
                ScreenRoom room = told("screen a 0 0 0 4 0;screen b 0 1 0 1 0;moth " + moth + ";");
                int[] wholes = drawn(seed, moth, 2);
                for (int whole = 0; whole <= 6; whole++) {
                    int times = 0;
                    for (int k = 0; k < 10; k++) if (wholes[k] >= whole) times++;
                    due("seed " + seed + ", moth " + moth + ", whole " + whole, room.chance(seed, 29, whole), times);
                }
            }
        }
        about = "32: HOURS from now";
        ScreenRoom later = told("screen a 0 0 0 1 0;moth 100;");
        later.go(9);
        due("the next hour", later.chance(0, 1, 1), 0);
        later.go(1);
        later.mend(0);
        due("nine more", later.chance(0, 9, 1), 10);
        due("ten more", later.chance(0, 10, 1), 0);
    }

    private static int[] drawn(int seed, int moth, int tenths) {
        int[] wholes = new int[10];
        BigInteger last = BigInteger.valueOf(seed);
        for (int time = 0; time < 10; time++) {
            int[] whole = {4, 1};
            for (int k = 0; k < 2 * tenths; k++) {
                if (whole[k % 2] > 0) {
                    last = last.multiply(BigInteger.valueOf(1103515245)).add(BigInteger.valueOf(12345)).mod(BigInteger.ONE.shiftLeft(31));
                    if (last.divide(BigInteger.valueOf(65536)).intValue() % 100 < moth) whole[k % 2]--;
                }
            }
            wholes[time] = whole[0] + whole[1];
        }
        return wholes;
    }

    private static void trying() {
        about = "33: no such ones (i 0 of all but 2)";
        ScreenRoom two = told(TWO);
        for (int what : outside(5)) due("what " + what, two.tried(what, 0, 1), -1);
        for (int what = 0; what <= 5; what++) {
            for (int n : outside(99)) due("n " + n, two.tried(what, 0, n), -1);
            if (what != 2) for (int i : new int[] {MIN, -1, 1, 2, MAX}) due("i " + i, two.tried(what, i, 1), -1);
            due("n 0", two.tried(what, 0, 0), 0);
        }
        for (int none : NO_SCREENS_OF_TWO) due("screen " + none, two.tried(2, none, 1), -1);
        due("n 99", two.tried(0, 0, 99), 198);
        due("the last screen", two.tried(2, 1, 99), 99);
        due("the first screen", two.tried(2, 0, 99), 99);
        ScreenRoom alone = told("screen a 0 0 0 1 0;folk x 0 1 1 0;");
        due("no screen is left", alone.tried(2, 0, 99), 0);
        about = "33: 1 no moths";
        ScreenRoom eaten = told("screen a 0 0 0 1 0;folk x 0 1 1 0;law cut 100;");
        due("as it goes", eaten.tried(0, 0, 99), 10);
        due("no moths", eaten.tried(1, 0, 99), 99);
        about = "33: 5 all leaves are WHOLE now";
        eaten.go(10);
        due("as it goes", eaten.tried(0, 0, 99), 0);
        due("whole", eaten.tried(5, 0, 99), 10);
        due("no moths, but cut", eaten.tried(1, 0, 99), 0);
        ScreenRoom counted = told("screen a 0 0 0 3 0;folk x 0 1 1 0;law pay whole*10;law cut 100*(hour<10);");
        counted.go(11);
        due("two are whole", counted.tried(0, 0, 1), 20);
        due("three are, no more", counted.tried(5, 0, 1), 30);
        due("now two", counted.count(6), 2);
        about = "33: 2 neither its leaves nor what is carried of it";
        // b stands where x would step, and is carried onto where a goes.
        ScreenRoom gone = told("room 1 6;screen a 0 0 0 1 0;screen b 1 0 2 1 0;folk x 0 0 1 0;step x 0 1;carry b 1 0 5;carry a 2 0 5;");
        due("with b x is refused and stays", gone.tried(0, 0, 3), 3);
        due("without b a gets there", gone.tried(2, 1, 3), 3);
        due("without a", gone.tried(2, 0, 3), 0);
        ScreenRoom steps = told("room 1 6;screen a 0 0 0 1 0;screen b 1 0 2 1 0;folk x 0 0 3 0;step x 1 3;carry b 0 0 5;");
        due("as it goes: 0 is one nearer than 5 at (0,2)", steps.tried(0, 0, 3), 2);
        due("3 nothing is carried", steps.tried(3, 0, 3), 0);
        due("4 nobody steps", steps.tried(4, 0, 3), 0);
        due("2 without b", steps.tried(2, 1, 3), 3);
    }

    private static void undoing() {
        about = "34: NONE: none";
        ScreenRoom room = told(TWO);
        due("none", room.undo(), -1);
        due("none", room.undo(), -1);
        about = "34: 20 at most";
        for (int turns = 18; turns <= 22; turns++) {
            ScreenRoom turned = told(TWO);
            for (int k = 0; k < turns; k++) turned.turn(0);
            int kept = Math.min(20, turns);
            due("can be undone", turned.count(14), kept);
            for (int left = kept - 1; left >= 0; left--) due("left", turned.undo(), left);
            due("none", turned.undo(), -1);
            due("as it was " + kept + " ahead", turned.screen(0, 4), (turns - kept) % 2);
        }
        about = "34: each of the latest 20 is undone";
        ScreenRoom carried = told("room 8 8;screen a 0 0 0 1 0;");
        for (int k = 1; k <= 25; k++) due("carried", carried.carry(0, k / 8, k % 8), true);
        for (int k = 24; k >= 5; k--) {
            due("left", carried.undo(), k - 5);
            due("where it was", carried.screen(0, 1) * 8 + carried.screen(0, 2), k);
            due("its leaf", carried.leaf(k / 8, k % 8), 0);
        }
        due("none", carried.undo(), -1);
        ScreenRoom walked = told("room 4 4;screen a 0 0 0 1 0;screen b 1 3 3 1 0;folk v 1 0 1 0;folk w 2 0 2 0;folk x 3 0 3 0;folk y 4 1 0 0;"
            + "folk z 5 1 1 0;folk last 9 3 0 0;law ageing 7;");
        due("right", walked.step(5, 1), 16);
        due("up", walked.step(5, 0), 23);
        due("undone", walked.undo(), 1);
        due("age", walked.folk(5, 0), 16);
        due("row", walked.folk(5, 1), 3);
        due("column", walked.folk(5, 2), 1);
        due("undone", walked.undo(), 0);
        due("age", walked.folk(5, 0), 9);
        due("row", walked.folk(5, 1), 3);
        due("column", walked.folk(5, 2), 0);
        ScreenRoom placed = told("room 4 4;screen a 0 0 0 1 0;screen b 1 2 1 2 1;");
        placed.carry(1, 0, 3);
        placed.undo();
        due("row", placed.screen(1, 1), 2);
        due("column", placed.screen(1, 2), 1);
        due("down", placed.screen(1, 4), 1);
        about = "34: of all kinds, the latest first";
        ScreenRoom kinds = told(TWO + "moth 100;");
        kinds.go(10);
        kinds.mend(0);
        kinds.carry(1, 0, 3);
        kinds.step(0, 1);
        kinds.turn(0);
        due("turn", kinds.undo(), 3);
        due("along", kinds.screen(0, 4), 0);
        due("step", kinds.undo(), 2);
        due("column", kinds.folk(0, 2), 0);
        due("carry", kinds.undo(), 1);
        due("row", kinds.screen(1, 1), 1);
        due("mend", kinds.undo(), 0);
        due("cut", kinds.screen(0, 5), 2);
        due("leaf", kinds.leaf(0, 0), -2);
        about = "34: if no HOUR went by since";
        kinds.turn(0);
        due("no hour", kinds.go(0), 10);
        due("no such number", kinds.go(100), -1);
        due("still", kinds.count(14), 1);
        due("an hour", kinds.go(1), 11);
        due("none", kinds.undo(), -1);
        due("0", kinds.count(14), 0);
        kinds.turn(0);
        due("one since", kinds.undo(), 0);
        due("none", kinds.undo(), -1);
        about = "34: what was undone can't be undone";
        kinds.turn(0);
        kinds.turn(0);
        kinds.undo();
        kinds.carry(1, 0, 3);
        due("two", kinds.count(14), 2);
        due("carry", kinds.undo(), 1);
        due("turn", kinds.undo(), 0);
        due("none", kinds.undo(), -1);
    }

    private static void images() {
        about = "35, 36: NONE: there is none";
        ScreenRoom room = told(TWO + "moth 100;");
        due("none", room.back(), -1);
        room.turn(0);
        due("none", room.back(), -1);
        due("still to undo", room.count(14), 1);
        due("at 0", room.keep(), 0);
        due("still to undo", room.count(14), 1);
        room.go(99);
        due("back", room.back(), 0);
        due("nothing to undo", room.undo(), -1);
        due("turned", room.screen(0, 4), 1);
        due("whole", room.count(6), 4);
        room.turn(0);
        due("back", room.back(), 0);
        due("nothing to undo, though no hour went by", room.undo(), -1);
        due("as in the image", room.screen(0, 4), 1);
        about = "35: in place of one ahead";
        room.go(10);
        due("at 10", room.keep(), 10);
        room.go(10);
        due("back", room.back(), 10);
        due("back once more", room.back(), 10);
        due("whole", room.count(6), 2);
        about = "36: all but what was SEEN";
        room.see(1, 0, 0, 1, true);
        room.out(0);
        room.keep();
        room.see(1, 0, 0, 2, true);
        room.back();
        due("seen", room.count(12), 3);
        due("painted", room.painted(0), 4);
        about = "36: a faulty TEXT leaves it, a sound one doesn't";
        due("faulty", tell(room, ";"), -1);
        due("back", room.back(), 10);
        due("sound", tell(room, ""), 0);
        due("none", room.back(), -1);
    }

    private static void counts() {
        about = "37: NONE for another what";
        ScreenRoom full = told(FULL);
        for (int what : outside(14)) due("what " + what, full.count(what), -1);
        int[] most = {5, 6, 8, 8, 0, 0, 20, 0, 0, 6, 44, 6, 0, 0, 0};
        for (int what = 0; what < 15; what++) due("count " + what, full.count(what), most[what]);
        about = "37: DONE, AGE of all at their most";
        ScreenRoom rich = told("screen a 0 0 0 1 0;folk a 99 0 0 0;folk b 99 0 0 0;folk c 99 0 0 0;folk d 99 0 0 0;folk e 99 0 0 0;folk f 99 0 0 0;law pay 99;");
        due("age", rich.count(9), 594);
        for (int k = 0; k < 3; k++) rich.go(99);
        due("done", rich.count(8), 6 * 9999);
        about = "37: FREE";
        due("none", told("room 1 1;screen a 0 0 0 1 0;").count(10), 0);
        due("all", told("room 8 8;").count(10), 64);
        ScreenRoom eaten = told("room 1 1;screen a 0 0 0 1 0;moth 100;");
        eaten.go(10);
        due("a cut leaf's", eaten.count(10), 1);
    }

    public static void main(String[] args) {
        newObject();
        fiveHundredCalls();
        feeding();
        texts();
        faults();
        names();
        folkAndScreens();
        cells();
        laws();
        carrying();
        mending();
        stepping();
        going();
        ahead();
        ways();
        standing();
        worths();
        rests();
        holding();
        meeting();
        seeing();
        painting();
        chances();
        trying();
        undoing();
        images();
        counts();
        end();
    }
}
