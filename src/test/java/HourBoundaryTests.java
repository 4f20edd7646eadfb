import java.math.BigInteger;

/** An HOUR, its laws, values and numbers: what still is so and what no more, sentence by sentence. */
public final class HourBoundaryTests extends Due {
    private static final long ERROR = Long.MIN_VALUE;
    // 10 to the 12 in four knots and three signs.
    private static final String GREATEST = "1000*1000*1000*1000";
    // x stands in season 3 beside the first cell of season 0.
    private static final String SIDES = "room 1 4;screen a 3 0 0 1 0;screen b 0 0 3 1 0;folk x 10 0 1 3;";

    private static void fars() {
        about = "FAR: the least to a WHOLE leaf; SEASON: least FAR, of several the first";
        ScreenRoom even = told("room 1 5;screen a 1 0 0 1 0;screen b 2 0 4 1 0;");
        int[] seasons = {1, 1, 1, 2, 2};
        for (int column = 0; column < 5; column++) due("column " + column, even.season(0, column), seasons[column]);
        ScreenRoom swapped = told("room 1 5;screen b 2 0 4 1 0;screen a 1 0 0 1 0;");
        int[] others = {1, 1, 2, 2, 2};
        for (int column = 0; column < 5; column++) due("column " + column, swapped.season(0, column), others[column]);
        about = "FAR: differences of ROWS and of COLUMNS, added up";
        // (2,2) is four from a's leaf, three from b's: the greater difference alone would be 2 for a.
        due("added up", told("room 4 6;screen a 1 0 0 1 0;screen b 2 2 5 1 0;").season(2, 2), 2);
        ScreenRoom corner = told("room 8 8;screen a 1 0 0 1 0;folk x 0 7 7 1;folk y 0 0 0 1;law pay near;");
        due("farthest", corner.law(1, 0), 14);
        due("on a leaf", corner.law(1, 1), 0);
        about = "FAR: to its last leaf, too";
        ScreenRoom last = told("room 8 8;screen a 1 0 0 4 0;screen b 2 7 4 4 0;folk x 0 0 4 1;folk y 0 4 0 1;law pay near;");
        due("right of the fourth leaf", last.law(1, 0), 1);
        due("below the first one", last.law(1, 1), 4);
        due("down", told("room 8 8;screen a 1 0 0 4 1;folk x 0 7 0 1;law pay near;").law(1, 0), 4);
        about = "SEASON: 4, if there is none";
        due("no screen", told("room 2 2;").season(1, 1), 4);
        ScreenRoom bare = told("room 2 2;screen a 1 0 0 2 0;moth 100;");
        bare.go(19);
        due("one is whole", bare.season(1, 0), 1);
        due("none of 4", bare.ofSeason(4), 0);
        bare.go(1);
        due("none is whole", bare.season(1, 0), 4);
        due("all of 4", bare.ofSeason(4), 4);
        due("none of 1", bare.ofSeason(1), 0);
        about = "FAR: a CUT leaf is none";
        ScreenRoom cut = told("room 1 6;screen a 1 0 0 2 0;screen b 2 0 5 1 0;law cut 100*(season=1);");
        due("(0,3) is two from both", cut.season(0, 3), 1);
        due("(0,0) has a leaf", cut.leaf(0, 0), 0);
        cut.go(10);
        due("(0,3) as ever", cut.season(0, 3), 1);
        due("(0,0) has none", cut.leaf(0, 0), -2);
        cut.go(10);
        due("(0,0) is b's", cut.season(0, 0), 2);
    }

    private static void carriedTo(int column, int refused, int then) {
        ScreenRoom room = told("room 2 5;screen a 0 0 0 2 0;screen b 1 0 4 1 0;carry a 0 0 " + column + ";");
        room.go(1);
        due("refused to column " + column, room.count(7), refused);
        due("carried to column " + column, room.screen(0, 2), then);
    }

    private static void carrying() {
        about = "(1) in the room, none where one of another SCREEN is";
        carriedTo(0, 0, 0);
        carriedTo(1, 0, 1);
        carriedTo(2, 0, 2);
        for (int column = 3; column < 8; column++) carriedTo(column, 1, 0);
        for (int row = 0; row < 8; row++) {
            ScreenRoom down = told("room 5 1;screen a 0 0 0 2 1;screen b 1 4 0 1 0;carry a 0 " + row + " 0;");
            down.go(1);
            due("refused to row " + row, down.count(7), row > 2 ? 1 : 0);
            due("carried to row " + row, down.screen(0, 1), row > 2 ? 0 : row);
            due("still down", down.screen(0, 4), 1);
        }
        about = "(1) CUT ones, too";
        String eaten = "room 1 5;screen a 0 0 0 2 0;screen b 1 0 4 1 0;moth 100;";
        for (int column = 1; column < 5; column++) {
            ScreenRoom room = told(eaten + "carry a 10 0 " + column + ";");
            room.go(11);
            due("first leaf of a, all of b are cut", room.screen(0, 5) * 10 + room.screen(1, 5), 20);
            due("refused to column " + column, room.count(7), column > 2 ? 1 : 0);
        }
        about = "(1) by their numbers";
        ScreenRoom first = told("room 1 3;screen a 0 0 0 1 0;screen b 1 0 1 1 0;carry a 0 0 1;carry b 0 0 2;");
        first.go(1);
        due("a refused, b not", first.count(7) * 100 + first.screen(0, 2) * 10 + first.screen(1, 2), 102);
        ScreenRoom second = told("room 1 3;screen a 0 0 0 1 0;screen b 1 0 1 1 0;carry b 0 0 2;carry a 0 0 1;");
        second.go(1);
        due("neither refused", second.count(7) * 100 + second.screen(0, 2) * 10 + second.screen(1, 2), 12);
        about = "(1) of this HOUR 0 .. 99, never again";
        ScreenRoom last = told("room 1 3;screen a 0 0 0 1 0;carry a 99 0 1;");
        last.go(99);
        due("not yet", last.screen(0, 2), 0);
        last.go(1);
        due("now", last.screen(0, 2), 1);
        last.carry(0, 0, 0);
        last.go(99);
        last.go(1);
        due("not at 199", last.screen(0, 2), 0);
        ScreenRoom at0 = told("room 1 3;screen a 0 0 0 1 0;carry a 0 0 1;");
        at0.go(1);
        due("at 0", at0.screen(0, 2), 1);
        at0.carry(0, 0, 0);
        at0.go(99);
        at0.go(1);
        due("not at 100", at0.screen(0, 2), 0);
    }

    private static void stepping() {
        about = "(2) if that is in the room";
        for (int way = 0; way < 4; way++) {
            ScreenRoom one = told("room 1 1;folk x 5 0 0 0;step x 0 " + way + ";");
            one.go(1);
            due("refused", one.count(7), 1);
            ScreenRoom three = told("room 3 3;folk x 5 1 1 0;step x 0 " + way + ";step x 1 " + way + ";");
            three.go(1);
            int row = way == 0 ? 0 : way == 2 ? 2 : 1;
            int column = way == 1 ? 2 : way == 3 ? 0 : 1;
            due("row", three.folk(0, 1), row);
            due("column", three.folk(0, 2), column);
            due("refused", three.count(7), 0);
            three.go(1);
            due("row as it was", three.folk(0, 1), row);
            due("column as it was", three.folk(0, 2), column);
            due("refused", three.count(7), 1);
        }
        about = "(2) and no WHOLE leaf is in it";
        ScreenRoom leaf = told("room 1 2;screen a 0 0 1 1 0;folk x 5 0 0 0;step x 9 1;step x 10 1;moth 100;");
        leaf.go(10);
        due("whole", leaf.count(7), 1);
        due("not there", leaf.folk(0, 2), 0);
        leaf.go(1);
        due("cut", leaf.count(7), 1);
        due("there", leaf.folk(0, 2), 1);
        ScreenRoom from = told("room 1 2;screen a 0 0 0 1 0;folk x 5 0 0 0;step x 0 1;step x 1 3;");
        from.go(1);
        due("out of a leaf", from.folk(0, 2), 1);
        from.go(1);
        due("not into it", from.folk(0, 2), 1);
        about = "(2) of this HOUR 0 .. 99, never again; by their numbers";
        ScreenRoom last = told("room 1 8;folk x 5 0 0 0;step x 99 1;step x 99 1;step x 0 1;");
        due("at 0", last.go(1), 1);
        due("one", last.folk(0, 2), 1);
        last.go(98);
        due("still one", last.folk(0, 2), 1);
        last.go(1);
        due("two more", last.folk(0, 2), 3);
        last.go(99);
        last.go(1);
        due("not at 100, at 199", last.folk(0, 2), 3);
        ScreenRoom order = told("room 2 2;folk x 5 0 0 0;step x 0 0;step x 0 2;step x 0 0;");
        order.go(1);
        due("refused, down, up", order.count(7) * 10 + order.folk(0, 1), 10);
        ScreenRoom second = told("room 2 2;folk x 5 0 0 0;folk y 6 0 0 0;step y 0 1;step x 1 2;");
        second.go(1);
        due("y alone", second.folk(0, 2) * 10 + second.folk(1, 2), 1);
        second.go(1);
        due("then x", second.folk(0, 1) * 10 + second.folk(1, 1), 10);
        about = "(1) ahead of (2)";
        ScreenRoom away = told("room 1 3;screen a 0 0 1 1 0;folk x 5 0 0 0;step x 0 1;carry a 0 0 2;");
        away.go(1);
        due("carried away", away.folk(0, 2), 1);
        ScreenRoom into = told("room 1 3;screen a 0 0 2 1 0;folk x 5 0 0 0;step x 0 1;carry a 0 0 1;");
        into.go(1);
        due("carried into the way", into.count(7), 1);
    }

    private static void ages(String law, int more) {
        ScreenRoom room = told(SIDES + law);
        due("3 to 0 by " + law, room.step(0, 1), 10 + more);
        ScreenRoom hour = told(SIDES + law + "step x 0 1;");
        hour.go(1);
        due("3 to 0 in an hour by " + law, hour.folk(0, 0), 10 + more);
    }

    private static void ageing() {
        about = "(2) AGE is more by E of ageing (0 .. 9)";
        ages("law ageing 0-1;", 0);
        ages("law ageing 0;", 0);
        ages("law ageing 1;", 1);
        ages("law ageing 8;", 8);
        ages("law ageing 9;", 9);
        ages("law ageing 10;", 9);
        ages("law ageing 9999;", 9);
        ages("law ageing 0-9999;", 0);
        ages("law ageing 0-" + GREATEST + ";", 0);
        ages("law ageing " + GREATEST + ";", 9);
        // As an int it would be 2.
        ages("law ageing 8192*8192*64+2;", 9);
        about = "(2) modulo 4, without, with an ERROR";
        ages("", 1);
        ages("law ageing 5/0;", 1);
        ages("law ageing " + GREATEST + "+1;", 1);
        ages("law ageing 0-" + GREATEST + "-1;", 1);
        for (int from = 0; from < 4; from++) {
            for (int to = 0; to < 4; to++) {
                String text = "room 1 4;screen a " + from + " 0 0 1 0;screen b " + to + " 0 3 1 0;folk x 10 0 1 3;";
                int more = to >= from ? to - from : to - from + 4;
                due(from + " to " + to, told(text).step(0, 1), 10 + more);
                due(from + " to " + to + " with an error", told(text + "law ageing 1/0;").step(0, 1), 10 + more);
            }
        }
        about = "(2) if its SEASON is another one";
        due("the same", told("room 1 4;screen a 3 0 0 1 0;screen b 3 0 3 1 0;folk x 10 0 1 3;law ageing 9;").step(0, 1), 10);
        due("none at all", told("room 1 4;folk x 10 0 1 3;law ageing 9;").step(0, 1), 10);
        about = "(2) 999 at most";
        ScreenRoom nines = told(SIDES.replace("x 10", "x 99") + "law ageing 9;");
        for (int k = 1; k < 100; k++) nines.step(0, k % 2 == 1 ? 1 : 3);
        due("99 times", nines.folk(0, 0), 990);
        due("just 999", nines.step(0, 3), 999);
        due("no more", nines.step(0, 1), 999);
        due("it steps all the same", nines.folk(0, 2), 2);
        ScreenRoom eights = told(SIDES.replace("x 10", "x 99") + "law ageing 8;step x 0 1;");
        for (int k = 1; k < 113; k++) eights.step(0, k % 2 == 1 ? 1 : 3);
        due("112 times", eights.folk(0, 0), 995);
        due("ahead", eights.ahead(1, 0, 0), 999);
        eights.go(1);
        due("999 at most", eights.folk(0, 0), 999);
        due("the law sees it", told(SIDES + "law ageing age;").law(0, 0), 10);
    }

    private static void pays(String law, int more) {
        ScreenRoom room = told(SIDES + law);
        room.go(1);
        due("paid by " + law, room.folk(0, 4), more);
    }

    private static void paying() {
        about = "(3) DONE is more by E of pay (0 .. 99)";
        pays("law pay 0-1;", 0);
        pays("law pay 0;", 0);
        pays("law pay 1;", 1);
        pays("law pay 98;", 98);
        pays("law pay 99;", 99);
        pays("law pay 100;", 99);
        pays("law pay 0-9999;", 0);
        pays("law pay " + GREATEST + ";", 99);
        pays("law pay 0-" + GREATEST + ";", 0);
        pays("law pay 8192*8192*64+2;", 99);
        about = "(3) 1 without, with an ERROR";
        pays("", 1);
        pays("law pay 5/0;", 1);
        pays("law pay " + GREATEST + "+1;", 1);
        pays("law pay 0-" + GREATEST + "-1;", 1);
        about = "(3) whose cell has the SEASON of its work";
        for (int season = 0; season < 4; season++) {
            ScreenRoom room = told("screen a 2 0 0 1 0;folk x 10 0 1 " + season + ";");
            room.go(7);
            due("work in " + season, room.folk(0, 4), season == 2 ? 7 : 0);
        }
        about = "(3) 9999 at most";
        ScreenRoom most = told(SIDES + "law pay 99;");
        most.go(99);
        most.go(1);
        due("a hundred hours", most.folk(0, 4), 9900);
        due("ahead", most.ahead(1, 1, 0), 9999);
        due("ahead, no more", most.ahead(2, 1, 0), 9999);
        most.go(1);
        due("just 9999", most.folk(0, 4), 9999);
        most.go(1);
        due("no more", most.folk(0, 4), 9999);
        due("tried: nothing more", most.tried(0, 0, 9), 0);
        ScreenRoom over = told(SIDES + "law pay 98;");
        over.go(99);
        over.go(3);
        due("102 hours", over.folk(0, 4), 9996);
        due("tried: the rest", over.tried(0, 0, 1), 3);
        over.go(1);
        due("9999 at most", over.folk(0, 4), 9999);
        about = "(2) ahead of (3), (3) ahead of (4)";
        ScreenRoom comes = told("room 1 4;screen a 3 0 0 1 0;screen b 0 0 3 1 0;folk x 10 0 1 0;step x 0 1;");
        comes.go(1);
        due("comes and works", comes.folk(0, 4), 1);
        ScreenRoom eaten = told("screen a 0 0 0 1 0;folk x 10 0 1 0;moth 100;");
        eaten.go(9);
        due("nine", eaten.folk(0, 4), 9);
        eaten.go(1);
        due("ten", eaten.folk(0, 4), 10);
        eaten.go(1);
        due("no more", eaten.folk(0, 4), 10);
    }

    /** b is cut if a draws no number: 38 is below 39, the next one, 58, isn't. */
    private static void draws(String law, boolean numberDrawn, boolean cut) {
        ScreenRoom room = told("screen a 1 0 0 1 0;screen b 2 1 0 1 0;seed 1;" + law);
        room.go(10);
        due("a by " + law, room.screen(0, 5), cut ? 0 : 1);
        due("b behind a by " + law, room.screen(1, 5), numberDrawn ? 1 : 0);
    }

    private static void cutting() {
        about = "(4) HOUR modulo 10 is 9";
        ScreenRoom room = told("screen a 1 0 0 4 0;moth 100;");
        for (int hour = 1; hour <= 60; hour++) {
            room.go(1);
            int whole = Math.max(0, 4 - hour / 10);
            due("whole at " + hour, room.count(6), whole);
            due("the first one first", room.screen(0, 5), 15 >> (4 - whole) << (4 - whole));
        }
        ScreenRoom late = told("screen a 1 0 0 4 0;law cut 100*(hour>=9880);");
        for (int k = 0; k < 99; k++) late.go(99);
        late.go(88);
        due("9889", late.count(6), 4);
        late.go(1);
        due("9890", late.count(6), 3);
        late.go(9);
        due("9899", late.count(6), 3);
        late.go(1);
        due("9900", late.count(6), 2);
        due("ahead of the last hour", late.ahead(99, 3, 0), 0);
        about = "(4) no number, if E is 0 or 100";
        draws("law cut 0+39*(season=2);", false, false);
        draws("law cut (season=1)*(0-1)+39*(season=2);", false, false);
        draws("law cut (season=1)*1+39*(season=2);", true, false);
        draws("law cut (season=1)*38+39*(season=2);", true, false);
        draws("law cut (season=1)*39+39*(season=2);", true, true);
        draws("law cut (season=1)*99+39*(season=2);", true, true);
        draws("law cut (season=1)*100+39*(season=2);", false, true);
        draws("law cut (season=1)*101+39*(season=2);", false, true);
        draws("law cut (season=1)*8192*8192*64+39*(season=2);", false, true);
        about = "(4) moth without, with an ERROR";
        draws("moth 38;", true, false);
        draws("moth 39;", true, true);
        draws("moth 38;law cut 1/0;", true, false);
        draws("moth 39;law cut 1/0;", true, true);
        draws("moth 0;law cut 39/(season-1);", false, false);
        draws("moth 100;law cut 39/(season-1);", false, true);
        about = "(4) each SCREEN with a WHOLE leaf";
        ScreenRoom bare = told("screen a 1 0 0 1 0;screen b 2 1 0 4 0;seed 1;law cut 100*(season=1)*(hour<10)+39*(hour>10);");
        bare.go(10);
        due("a is bare", bare.screen(0, 5), 0);
        bare.go(10);
        due("38 is b's", bare.screen(1, 5), 14);
        about = "AS IT GOES: 50 at least";
        String[] laws = {"moth 49;", "moth 50;", "law cut 49;", "law cut 50;", "law cut 0-50;", "law cut 9999;", "moth 49;law cut 1/0;", "moth 50;law cut 1/0;"};
        int[] wholes = {1, 0, 1, 0, 1, 0, 1, 0};
        for (int k = 0; k < laws.length; k++) {
            ScreenRoom goes = told("screen a 1 0 0 1 0;folk x 0 0 1 1;" + laws[k]);
            due("ahead 9 by " + laws[k], goes.ahead(9, 3, 0), 1);
            due("ahead 10 by " + laws[k], goes.ahead(10, 3, 0), wholes[k]);
            due("tried by " + laws[k], goes.tried(0, 0, 12), wholes[k] == 1 ? 12 : 10);
            goes.see(10, 0, 0, 4, true);
            due("painted by " + laws[k], goes.painted(0), wholes[k] == 1 ? 0 : 15);
        }
    }

    private static long nextNumber(long last) {
        BigInteger product = BigInteger.valueOf(last).multiply(BigInteger.valueOf(1103515245)).add(BigInteger.valueOf(12345));
        return product.mod(BigInteger.ONE.shiftLeft(31)).longValue();
    }

    private static void numbers() {
        about = "Numbers: without what is above 31 bits, by 65536";
        for (int seed : new int[] {0, 1, 2, 3, 1000, 32767, 65535, 65536, 99998, 99999}) {
            long first = nextNumber(seed) / 65536 % 100;
            ScreenRoom below = told("screen a 1 0 0 4 0;seed " + seed + ";moth " + first + ";");
            below.go(10);
            due("not below itself, seed " + seed, below.count(6), 4);
            ScreenRoom above = told("screen a 1 0 0 4 0;seed " + seed + ";moth " + (first + 1) + ";");
            above.go(10);
            due("below one more, seed " + seed, above.count(6), 3);
        }
        about = "(4) by numbers: one behind another, from tenth HOUR to tenth HOUR";
        ScreenRoom room = told("screen a 1 0 0 4 0;screen b 2 1 0 4 0;screen c 3 2 0 4 0;seed 99999;moth 60;");
        long last = 99999;
        int[] cut = new int[3];
        for (int tenth = 0; tenth < 8; tenth++) {
            room.go(10);
            for (int k = 0; k < 3; k++) {
                if (cut[k] < 4) {
                    last = nextNumber(last);
                    if (last / 65536 % 100 < 60) cut[k]++;
                }
                due("screen " + k + " behind " + tenth, room.screen(k, 5), 15 >> cut[k] << cut[k]);
            }
        }
    }

    private static long value(String law) {
        return told("room 3 4;screen a 0 0 0 2 0;folk x 10 1 0 3;law pay " + law + ";").law(1, 0);
    }

    private static void values() {
        about = "ERROR: a value above 10 to the 12 or below 0 by more than that";
        long most = 1000000000000L;
        String above = "(" + GREATEST + ")";
        due("it", value(GREATEST), most);
        due("one more", value(GREATEST + "+1"), ERROR);
        due("one more, one less", value(GREATEST + "+1-1"), ERROR);
        due("one less, one more", value(GREATEST + "-1+1"), most);
        due("below", value("0-" + GREATEST), -most);
        due("one less", value("0-" + GREATEST + "-1"), ERROR);
        due("by a product", value(above + "*1"), most);
        due("by a greater one", value(above + "*2"), ERROR);
        due("by a product below", value(above + "*(0-1)"), -most);
        due("by a lesser one", value(above + "*(0-2)"), ERROR);
        due("both below", value("(0-1000*1000)*(0-1000*1000)"), most);
        due("both below, more", value("(0-1000*1000)*(0-1000*1000-1)"), ERROR);
        due("just below it", value("(1000*1000-1)*(1000*1000+1)"), most - 1);
        due("half of it, twice", value(above + "/2*2"), most);
        due("by a quotient", value(above + "/(0-1)"), -most);
        due("a long would wrap around to 0", value("(8192*8192*64)*(8192*8192*64)"), ERROR);
        due("a long would wrap around to a little", value("(8192*8192*64+1)*(8192*8192*64)"), ERROR);
        due("an int would wrap around", value("8192*8192*64"), 4294967296L);
        due("an int would wrap around", value("8192*8192*64=0"), 0);
        due("of the greatest both", value(above + "*" + above), ERROR);
        due("by 0", value(above + "*0"), 0);
        due("twice by a sum", value(above + "+" + above), ERROR);
        due("less itself", value(above + "-" + above), 0);
        about = "ERROR: / by 0";
        due("1", value("1/0"), ERROR);
        due("0", value("0/0"), ERROR);
        due("a name", value("1/done"), ERROR);
        due("0 above", value("0/1"), 0);
        due("wherever it is", value("0*(1/0)"), ERROR);
        due("in not", value("not 1/0"), ERROR);
        due("compared", value("1/0=1/0"), ERROR);
        about = "both sides are worked out";
        due("and", value("0 and 1/0"), ERROR);
        due("and", value("1/0 and 0"), ERROR);
        due("or", value("1 or 1/0"), ERROR);
        due("or", value("1/0 or 1"), ERROR);
        about = "/ is cut towards 0";
        due("7/2", value("7/2"), 3);
        due("-7/2", value("(0-7)/2"), -3);
        due("7/-2", value("7/(0-2)"), -3);
        due("-7/-2", value("(0-7)/(0-2)"), 3);
        due("1/2", value("1/2"), 0);
        due("-1/2", value("(0-1)/2"), 0);
        about = "E: what binds tighter";
        due("or last", value("1 or 0 and 0"), 1);
        due("or last", value("0 and 0 or 1"), 1);
        due("not ahead of and", value("not 0 and 0"), 0);
        due("comparing ahead of not", value("not 1=2"), 1);
        due("comparing ahead of and", value("1 and 2=2"), 1);
        due("sums ahead of comparing", value("2=1+1"), 1);
        due("products ahead of sums", value("1+2*3-8/4"), 5);
        due("from the left", value("9-4-3"), 2);
        due("from the left", value("99/10/2*3"), 12);
        due("from the left", value("5*3/2"), 7);
        due("from the left", value("9-4+3"), 8);
        due("in brackets or", value("(1 or 0) and 0"), 0);
        due("in brackets or, behind", value("0 and (0 or 1)"), 0);
        due("in brackets", value("2*(1+(2-(3-4)))"), 8);
        about = "comparisons, and, or, not are 1 or 0 (what isn't 0 is as 1)";
        String[] signs = {"<", "<=", "=", "<>", ">=", ">"};
        int[][] wants = {{1, 0, 0}, {1, 1, 0}, {0, 1, 0}, {1, 0, 1}, {0, 1, 1}, {0, 0, 1}};
        for (int k = 0; k < 6; k++) {
            for (int left = 4; left <= 6; left++) due(left + signs[k] + 5, value(left + signs[k] + 5), wants[k][left - 4]);
            due("below 0: " + signs[k], value("(0-5)" + signs[k] + "0"), wants[k][0]);
        }
        for (int a = 0; a < 2; a++) {
            for (int b = 0; b < 2; b++) {
                String left = a == 1 ? "(0-3)" : "0";
                String right = b == 1 ? "7" : "0";
                due(left + " and " + right, value(left + " and " + right), a & b);
                due(left + " or " + right, value(left + " or " + right), a | b);
            }
            due("not", value("not " + (a == 1 ? "(0-3)" : "0")), 1 - a);
            due("not", value("not " + (a == 1 ? "7" : "0")), 1 - a);
            due("not behind another", value("7+(not " + (a == 1 ? "7" : "0") + ")"), 8 - a);
        }
    }

    private static void names() {
        about = "NAMES of ageing, pay: 0 without SCREENS";
        String all = "season*1000+from*100+near*10+whole;";
        ScreenRoom none = told("folk x 10 1 0 3;law ageing " + all + "law pay " + all);
        due("ageing", none.law(0, 0), 4400);
        due("pay", none.law(1, 0), 4300);
        ScreenRoom bare = told("screen a 1 0 0 1 0;folk x 10 1 0 3;moth 100;law ageing " + all + "law pay " + all);
        due("ageing", bare.law(0, 0), 1111);
        due("pay", bare.law(1, 0), 1311);
        bare.go(10);
        due("ageing, all cut", bare.law(0, 0), 4400);
        due("pay, all cut", bare.law(1, 0), 4300);
        about = "NAMES of cut: from, age, done 0; near how many are CUT; whole of this SCREEN";
        ScreenRoom cut = told("screen a 3 0 0 4 0;screen b 2 1 0 2 0;folk x 99 2 0 3;law cut season*9999+(from+age+done)*1000+near*10+whole+hour*0;");
        due("a, all whole", cut.law(2, 0), 3 * 9999 + 4);
        for (int near = 1; near <= 4; near++) {
            cut.go(10);
            due("a, cut " + near, cut.law(2, 0), 3 * 9999 + near * 10 + 4 - near);
            due("b, cut " + near, cut.law(2, 1), 2 * 9999 + Math.min(2, near) * 10 + Math.max(0, 2 - near));
        }
        about = "NAMES: whole in all, 20 at most";
        String full = "room 8 8;screen a 0 0 0 4 0;screen b 1 1 0 4 0;screen c 2 2 0 4 0;screen d 3 3 0 4 0;screen e 0 4 0 4 0;";
        due("20", told(full + "folk x 0 0 0 0;law pay whole;").law(1, 0), 20);
        due("of this one", told(full + "law cut whole;").law(2, 4), 4);
        about = "NAMES: hour, age, done at their most";
        ScreenRoom old = told("screen a 0 0 0 1 0;folk x 10 1 0 0;law pay hour;law ageing done;");
        for (int k = 0; k < 100; k++) old.go(99);
        due("hour 9900", old.law(1, 0), 9900);
        due("done 9999 or less", old.law(0, 0), 9999);
        ScreenRoom agedTo = told(SIDES.replace("x 10", "x 99") + "law ageing age;");
        for (int k = 1; k <= 101; k++) agedTo.step(0, k % 2 == 1 ? 1 : 3);
        due("age 999", agedTo.law(0, 0), 999);
        about = "NAMES of ageing: season of the cell come to, from the one come from, near of the cell come to";
        // From (0,1), season 3, to (0,2), season 0, one from b's leaf: 1 + 3 + 1 - 0.
        due("comes to 0 from 3", told(SIDES + "law ageing (season=0)+from+near;").step(0, 1), 15);
        ScreenRoom far = told("room 1 6;screen a 3 0 0 1 0;screen b 0 0 4 1 0;folk x 10 0 2 3;law ageing near*2+season;");
        due("near 1, not 2", far.step(0, 1), 12);
    }

    public static void main(String[] args) {
        fars();
        carrying();
        stepping();
        ageing();
        paying();
        cutting();
        numbers();
        values();
        names();
        end();
    }
}
