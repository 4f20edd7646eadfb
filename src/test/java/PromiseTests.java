/** Each promise of the document, by inputs and answers worked out by hand. */
public final class PromiseTests extends Due {
    // Row 0: AA.. row 1: ...B row 2: ...B; A spring 0, B autumn 2.
    private static final String TWO = "room 3 4;screen a 0 0 0 2 0;screen b 2 1 3 2 1;";
    private static final String TWO_FOLK = TWO + "folk x 10 1 0 0;folk y 20 2 2 2;";

    private static void newObject() {
        about = "1";
        ScreenRoom room = new ScreenRoom();
        int[] counts = {0, 0, 4, 4, 0, 0, 0, 0, 0, 0, 16, 0, 0, 0, 0};
        for (int what = 0; what < counts.length; what++) due("count " + what, room.count(what), counts[what]);
        due("text(1)", room.text(1), -2);
        due("fault", room.fault(0), 0);
        due("place", room.fault(1), -1);
        due("back", room.back(), -1);
        due("undo", room.undo(), -1);
        due("season", room.season(3, 3), 4);
        due("leaf", room.leaf(3, 3), -2);
        due("needed", room.needed(), 0);
        due("chance", room.chance(1, 10, 0), 10);
        due("chance", room.chance(1, 10, 1), 0);
        due("NONE", ScreenRoom.NONE, -1);
    }

    private static void feeding() {
        about = "2";
        ScreenRoom room = new ScreenRoom();
        for (int k = 1; k <= 35; k++) due("feed", room.feed(0x20202020, 0x20202020, 0x20202020, 0x20202020, 0x20202020), 20 * k);
        due("too many", room.feed(0x61616161, 0, 0, 0, 0), -1);
        due("too many again", room.feed(0x61616161, 0, 0, 0, 0), -1);
        due("text", room.text(701), -2);
        due("text", room.text(700), 0);
        due("empty then", room.feed(0x726f6f6d, 0x20332035, 0x3b202020, -1, 0), 20);
        due("text", room.text(9), 1);
        due("rows", room.count(2), 3);
        due("columns", room.count(3), 5);
        room.feed(0x20202020, 0x2020ff20, 0, 0, 0);
        due("a byte above 127", room.text(7), -1);
        due("its place", room.fault(1), 6);
    }

    private static void texts() {
        about = "3";
        ScreenRoom room = told(TWO_FOLK);
        room.see(1, 0, 0, 0, true);
        room.known(1);
        room.keep();
        room.turn(0);
        feed(room, "room 9 9;");
        due("too long", room.text(21), -2);
        due("below 0", room.text(-1), -2);
        due("lowest", room.text(Integer.MIN_VALUE), -2);
        due("faulty", room.text(9), -1);
        due("empty behind a fault", room.text(1), -2);
        due("stays: screens", room.count(0), 2);
        due("stays: turned", room.screen(0, 4), 1);
        due("stays: seen", room.count(12), 1);
        due("stays: undo", room.count(14), 1);
        due("stays: image", room.back(), 0);
        due("image", room.screen(0, 4), 0);
        room.go(5);
        room.keep();
        room.turn(0);
        feed(room, "room 2 2;room 1 1;");
        due("only the first n", room.text(9), 1);
        due("rest is gone", room.feed(0, 0, 0, 0, 0), 20);
        due("hour", room.count(5), 0);
        due("seen", room.count(12), 0);
        due("known", room.count(13), 0);
        due("undo", room.undo(), -1);
        due("image", room.back(), -1);
        due("rows", room.count(2), 2);
        ScreenRoom many = told("moth 100;screen a 0 0 0 2 0;folk x 0 0 2 0;");
        many.go(30);
        due("cut", many.count(6), 0);
        due("done", many.count(8), 20);
        due("again", tell(many, "screen a 0 0 0 2 0;folk x 0 0 2 0;"), 2);
        due("whole again", many.count(6), 2);
        due("nothing done", many.count(8), 0);
        due("nothing refused", many.count(7), 0);
        due("no moth", many.holds(0, 1, 1), 1);
        told("");
        told(" \n ");
        told("room4 5;\nfolk a1 1 1 1 ;");
        told("screen a 0 0 0 1 0;folk a 0 0 0 0;");
        told("moth 0;seed 99999;");
    }

    private static void faultCall() {
        about = "4";
        ScreenRoom room = new ScreenRoom();
        due("before", room.fault(0), 0);
        tell(room, "room;");
        due("kind", room.fault(0), 1);
        due("place", room.fault(1), 4);
        due("other", room.fault(2), -1);
        due("other", room.fault(-1), -1);
        due("-2", room.text(50), -2);
        due("kind stays", room.fault(0), 1);
        due("place stays", room.fault(1), 4);
        tell(room, "room 1 1;");
        due("none", room.fault(0), 0);
        due("no place", room.fault(1), -1);
    }

    private static void wrongTokens() {
        about = "fault 1";
        faulty(";", 1, 0);
        faulty("room", 1, 4);
        faulty("room  ", 1, 6);
        faulty("room 4 4", 1, 8);
        faulty("room 4 4\n\n", 1, 10);
        faulty("room 4 4;x", 1, 9);
        faulty("room 4 4;;", 1, 9);
        faulty("Room 4 4;", 1, 0);
        faulty("room\t4 4;", 1, 4);
        faulty("room 4,4;", 1, 6);
        faulty("room a 4;", 1, 5);
        faulty("screens a 0 0 0 1 0;", 1, 0);
        faulty("screen abcdefg 0 0 0 1 0;", 1, 7);
        faulty("screen law 0 0 0 1 0;", 1, 7);
        faulty("screen hour 0 0 0 1 0;", 1, 7);
        faulty("screen a 0 0 0 1 0 0;", 1, 19);
        faulty("screen 1 0 0 0 1 0;", 1, 7);
        faulty("folk or 0 0 0 0;", 1, 5);
        faulty("carry pay 0 0 0;", 1, 6);
        faulty("room 4 4;screen a 0 0 0 1 0;room 4 4;", 1, 28);
        faulty("folk a 0 0 0 0;room 4 4;", 1, 15);
        faulty("law moth 1;", 1, 4);
        faulty("law;", 1, 3);
        faulty("law pay;", 1, 7);
        faulty("law pay 1 2;", 1, 10);
        faulty("law pay 1<2<3;", 1, 11);
        faulty("law pay 1<2+1>=3;", 1, 13);
        faulty("law pay not 1=2=3;", 1, 15);
        faulty("law pay 1+not 2;", 1, 10);
        faulty("law pay 1<not 2;", 1, 10);
        faulty("law pay 1 not 2;", 1, 10);
        faulty("law pay (1;", 1, 10);
        faulty("law pay 1);", 1, 9);
        faulty("law pay ();", 1, 9);
        faulty("law pay 1><2;", 1, 10);
        faulty("law pay 1< >2;", 1, 11);
        faulty("law pay 1<=>2;", 1, 11);
        faulty("law pay 1==2;", 1, 10);
        faulty("law pay -1;", 1, 8);
        faulty("law pay x;", 1, 8);
        faulty("law pay 1 and;", 1, 13);
        faulty("law pay 1", 1, 9);
        faulty("law pay 1+", 1, 10);
        faulty("law pay 1<=", 1, 11);
        faultyFirst("law pay 1<=2;", 10, 10);
        faultyFirst("rooms", 4, 4);
        faultyFirst("moth 12;", 6, 6);
        faulty("law pay seasons;", 1, 8);
        told("law pay (1<2)<3;");
        told("law pay 1<2 and 3<4 or 5<>6;");
        told("law pay not not 1 and not(1=(2>3));");
        told("law pay 00009999;");
    }

    private static void tooMuch() {
        about = "fault 2";
        faulty("room 99999999999999999999999 1;", 2, 5);
        faulty("room 1 4294967297;", 2, 7);
        faulty("room 1 3;screen a 0 1 0 1 0;", 2, 20);
        faulty("room 1 3;screen a 0 0 3 1 0;", 2, 22);
        faulty("room 1 3;screen a 0 0 0 5 0;", 2, 24);
        faulty("room 1 3;folk a 0 1 0 0;", 2, 18);
        faulty("room 1 3;folk a 0 0 3 0;", 2, 20);
        faulty("screen a 0 0 0 1 2;", 2, 17);
        faulty("screen a 0 0 3 4 2;", 2, 17);
        faulty("seed 100000;", 2, 5);
        faulty("screen a 4 0 0 1 0;", 2, 9);
        faulty("folk a 0 0 0 4;", 2, 13);
        faulty("folk a 100 0 0 0;", 2, 7);
        faulty("screen a 0 0 0 1 0;carry a 0 8 0;", 2, 29);
        faulty("screen a 0 0 0 1 0;carry a 100 0 0;", 2, 27);
        faulty("moth 101;", 2, 5);
        faulty("screen a 0 0 0 1 0;carry a 0 0 8;", 2, 31);
        faulty("law pay 10000;", 2, 8);
        faulty("law pay 1+10000;", 2, 10);
        faulty("law pay " + repeated("(", 9) + "1;", 2, 16);
        told("law pay " + repeated("(", 8) + "1" + repeated(")", 8) + "+(1);");
        String sum = "not 1" + repeated("+1", 31);
        due("64 knots", told("law pay " + sum + ";").count(4), 64);
        faulty("law pay " + sum + "+1;", 2, 8 + sum.length());
        faulty("law pay " + sum + ";law cut 1;", 2, 8 + sum.length() + 9);
        faulty("law pay " + sum + "<;", 2, 8 + sum.length());
        faulty("law pay " + sum + "not;", 1, 8 + sum.length());
        String five = "screen a 0 0 0 1 0;screen b 0 0 1 1 0;screen c 0 0 2 1 0;screen d 0 0 3 1 0;screen e 0 1 0 1 0;";
        told(five);
        faulty(five + "screen a;", 2, five.length());
        String six = "folk a 0 0 0 0;folk b 0 0 0 0;folk c 0 0 0 0;folk d 0 0 0 0;folk e 0 0 0 0;folk f 99 3 3 3;";
        told(six);
        faulty(six + "folk;", 2, six.length());
        String carries = "screen a 0 0 0 1 0;" + repeated("carry a 99 7 7;", 10);
        told(carries);
        faulty(carries + "carry a 0 0 0;", 2, carries.length());
        String steps = "folk a 0 0 0 0;" + repeated("step a 99 3;", 12);
        told(steps);
        faulty(steps + "step b;", 2, steps.length());
        faulty("folk a 0 0 0 0;step a 100 0;", 2, 22);
        faulty("folk a 0 0 0 0;step a 0 4;", 2, 24);
    }

    private static void toldTwice() {
        about = "faults 3, 4, 5";
        faulty("moth 1;moth 101;", 3, 7);
        faulty("seed 1;seed 1;", 3, 7);
        faulty("room 1 1;room 9 9;", 3, 9);
        faulty("law cut 1;law pay 1;law cut 1;", 3, 24);
        faulty("screen a 0 0 0 1 0;screen a 9 9 9 9 9;", 3, 26);
        faulty("folk a 0 0 0 0;folk a 0 0 0 0;", 3, 20);
        faulty("folk a 0 0 0 0;carry a 0 0 0;", 4, 21);
        faulty("screen a 0 0 0 1 0;step a 0 0;", 4, 24);
        faulty("carry a 0 0 0;screen a 0 0 0 1 0;", 4, 6);
        faulty("screen a 0 0 1 4 0;", 5, 17);
        faulty("screen a 0 1 0 4 1", 5, 17);
        faulty("screen a 0 0 1 3 1;screen b 0 2 0 2 0;", 5, 36);
        told("screen a 0 0 1 3 1;screen b 0 3 0 2 0;");
    }

    private static void names() {
        about = "5";
        ScreenRoom room = told("screen zebra 0 0 0 1 0;screen abcdef 0 1 0 1 0;folk zebra 0 0 0 0;folk a 1 1 1 1;");
        due("screen", room.named(0, letters("zebra")), 0);
        due("screen", room.named(0, letters("abcdef")), 1);
        due("folk", room.named(1, letters("zebra")), 0);
        due("folk", room.named(1, letters("a")), 1);
        due("a", letters("a"), 1 << 25);
        due("other kind", room.named(0, letters("a")), -1);
        due("none such", room.named(1, letters("b")), -1);
        due("no letters", room.named(0, 0), -1);
        due("not from the first one on", room.named(1, 1), -1);
        due("what", room.named(2, letters("a")), -1);
        due("what", room.named(-1, letters("a")), -1);
        due("bits above", room.named(1, letters("a") | 1 << 30), -1);
    }

    private static void folkAndScreens() {
        about = "6";
        ScreenRoom room = told(TWO_FOLK);
        int[] x = {10, 1, 0, 0, 0, 0};
        int[] y = {20, 2, 2, 2, 0, 2};
        for (int what = 0; what < 6; what++) {
            due("x " + what, room.folk(0, what), x[what]);
            due("y " + what, room.folk(1, what), y[what]);
        }
        due("throws", thrown(room, 2, 0), 1);
        due("throws", thrown(room, -1, 0), 1);
        due("throws", thrown(room, 0, 6), 2);
        due("throws", thrown(room, 0, -1), 2);
        due("throws", thrown(room, 2, 6), 1);
        due("throws", thrown(room, 1, 5), 0);
        due("none there", thrown(new ScreenRoom(), 0, 0), 1);
        about = "7";
        int[] b = {2, 1, 3, 2, 1, 3};
        for (int what = 0; what < 6; what++) due("b " + what, room.screen(1, what), b[what]);
        due("what", room.screen(1, 6), -1);
        due("what", room.screen(1, -1), -1);
        due("screen", room.screen(2, 0), -1);
        due("screen", room.screen(-1, 0), -1);
    }

    private static void seasons() {
        about = "8";
        ScreenRoom room = told(TWO);
        // Far from a: to (0,0), (0,1); from b: to (1,3), (2,3). Ties go to a.
        String want = "0002" + "0022" + "0022";
        for (int cell = 0; cell < 12; cell++) {
            due("season " + cell, room.season(cell / 4, cell % 4), want.charAt(cell) - '0');
        }
        due("no cell", room.season(3, 0), -1);
        due("no cell", room.season(0, 4), -1);
        due("no cell", room.season(-1, 0), -1);
        due("no cell", room.season(0, Integer.MAX_VALUE), -1);
        about = "9";
        due("leaf", room.leaf(0, 0), 0);
        due("leaf", room.leaf(0, 1), 0);
        due("leaf", room.leaf(0, 2), -2);
        due("leaf", room.leaf(1, 3), 1);
        due("leaf", room.leaf(2, 3), 1);
        due("no cell", room.leaf(3, 3), -1);
        due("no cell", room.leaf(0, -1), -1);
        ScreenRoom cut = told("screen a 1 0 0 2 0;moth 100;");
        cut.go(10);
        due("a cut one is none", cut.leaf(0, 0), -2);
        due("the next one", cut.leaf(0, 1), 0);
        cut.go(10);
        due("none", cut.leaf(0, 1), -2);
        due("no season", cut.season(0, 0), 4);
        about = "20";
        due("of 0", room.ofSeason(0), 7);
        due("of 1", room.ofSeason(1), 0);
        due("of 2", room.ofSeason(2), 5);
        due("of 4", room.ofSeason(4), 0);
        due("of 4", cut.ofSeason(4), 16);
        due("of 5", room.ofSeason(5), -1);
        due("of -1", room.ofSeason(-1), -1);
    }

    private static long pay(String law) {
        return told("room 3 4;screen a 0 0 0 2 0;folk x 10 1 0 3;law pay " + law + ";").law(1, 0);
    }

    private static void laws() {
        about = "10";
        long error = Long.MIN_VALUE;
        due("sum", pay("1+2*3-4/2"), 5);
        due("from the left", pay("9-4-3"), 2);
        due("from the left", pay("99/10/2"), 4);
        due("brackets", pay("(1+2)*3"), 9);
        due("cut towards 0", pay("(0-7)/2"), -3);
        due("less", pay("1<2"), 1);
        due("less", pay("2<2"), 0);
        due("at most", pay("2<=2"), 1);
        due("equal", pay("2=2"), 1);
        due("unequal", pay("2<>2"), 0);
        due("at least", pay("2>=3"), 0);
        due("more", pay("3>2"), 1);
        due("more", pay("2>2"), 0);
        due("just 10 to the 12", pay("1000*1000*1000*999+1000*1000*1000"), 1000000000000L);
        due("just that below 0", pay("0-1000*1000*1000*999-1000*1000*1000"), -1000000000000L);
        due("sums ahead of comparing", pay("1+1=2"), 1);
        due("not behind comparing", pay("not 1=2"), 1);
        due("not of a number", pay("not 7"), 0);
        due("not not", pay("not not 7"), 1);
        due("and ahead of or", pay("1 or 0 and 0"), 1);
        due("and ahead of or", pay("0 and 0 or 1"), 1);
        due("what isn't 0", pay("5 and (0-3)"), 1);
        due("or", pay("0 or 9"), 1);
        due("not ahead of and", pay("not 0 and 0"), 0);
        due("both sides", pay("0 and 1/0"), error);
        due("both sides", pay("1 or 1/0"), error);
        due("by 0", pay("1/(1-1)"), error);
        due("10 to the 12", pay("1000*1000*1000*1000"), 1000000000000L);
        due("above", pay("1000*1000*1000*1000+1"), error);
        due("below", pay("0-1000*1000*1000*1000"), -1000000000000L);
        due("far below", pay("0-1000*1000*1000*1000-1"), error);
        due("far above", pay("(1000*1000*1000*1000)*(1000*1000*1000*1000)"), error);
        due("wraps to little", pay("(4096*4096*4096)*(4096*4096*4096)*0"), error);
        due("names", pay("season*1000+from*100+age"), 310);
        due("names", pay("done*100+near*10+whole"), 12);
        due("hour", pay("hour"), 0);
        ScreenRoom room = told("room 3 4;screen a 2 0 0 3 0;folk x 10 2 0 3;"
            + "law ageing season*1000+from*100+age+near;law pay hour*100+done;law cut season*1000+from*100+near*10+whole;moth 100;");
        due("ageing", room.law(0, 0), 2000 + 200 + 10 + 2);
        due("cut", room.law(2, 0), 2003);
        room.go(10);
        due("cut, one cut", room.law(2, 0), 2012);
        due("ageing, further", room.law(0, 0), 2000 + 200 + 10 + 3);
        due("pay", room.law(1, 0), 1000);
        room.go(20);
        due("ageing without screens", room.law(0, 0), 4000 + 400 + 10);
        due("cut, all cut", room.law(2, 0), 2030);
        due("what", room.law(3, 0), error);
        due("what", room.law(-1, 0), error);
        due("folk", room.law(0, 1), error);
        due("folk", room.law(1, -1), error);
        due("screen", room.law(2, 1), error);
        due("no such law", told(TWO_FOLK).law(0, 0), error);
        due("no such law", told(TWO_FOLK).law(1, 0), error);
        due("no such law", told(TWO_FOLK).law(2, 0), error);
    }

    private static void carriedAndTurned() {
        about = "11";
        ScreenRoom room = told(TWO);
        due("it is there", room.carry(0, 0, 0), false);
        due("on b", room.carry(0, 1, 2), false);
        due("out", room.carry(0, 0, 3), false);
        due("out", room.carry(0, -1, 0), false);
        due("out", room.carry(0, 3, 0), false);
        due("far out", room.carry(0, Integer.MAX_VALUE, Integer.MAX_VALUE), false);
        due("no such one", room.carry(2, 0, 0), false);
        due("no such one", room.carry(-1, 0, 0), false);
        due("nothing to undo", room.count(14), 0);
        due("nothing refused", room.count(7), 0);
        due("over itself", room.carry(0, 0, 1), true);
        due("column", room.screen(0, 2), 1);
        due("leaf", room.leaf(0, 2), 0);
        due("down", room.carry(1, 0, 3), true);
        due("row", room.screen(1, 1), 0);
        due("still down", room.screen(1, 4), 1);
        ScreenRoom cut = told("room 1 5;screen a 1 0 0 2 0;screen b 1 0 4 1 0;moth 100;");
        cut.go(10);
        due("cut", cut.screen(0, 5), 2);
        due("cut leaves stand too", cut.carry(0, 0, 3), false);
        due("cut leaves are in the way too", cut.carry(1, 0, 0), false);
        due("cut leaves must be in the room", cut.carry(0, 0, 4), false);
        due("fits", cut.carry(0, 0, 2), true);
        about = "12";
        due("turned", room.turn(0), true);
        due("is down", room.screen(0, 4), 1);
        due("leaf", room.leaf(1, 1), 0);
        due("back", room.turn(0), true);
        due("is along", room.screen(0, 4), 0);
        due("out", room.turn(1), false);
        due("no such one", room.turn(2), false);
        due("no such one", room.turn(-1), false);
        due("undo", room.count(14), 4);
        ScreenRoom close = told("screen a 0 0 0 2 0;screen b 0 1 0 1 0;");
        due("another in the way", close.turn(0), false);
        due("a single leaf", close.turn(1), true);
        due("is down", close.screen(1, 4), 1);
    }

    private static void mended() {
        about = "13";
        ScreenRoom room = told("screen a 1 0 0 3 0;moth 100;");
        due("none is cut", room.mend(0), -2);
        due("no such one", room.mend(1), -1);
        due("no such one", room.mend(-1), -1);
        room.go(99);
        due("all cut", room.screen(0, 5), 0);
        due("one", room.mend(0), 1);
        due("the first", room.screen(0, 5), 1);
        due("two", room.mend(0), 2);
        due("three", room.mend(0), 3);
        due("none is cut", room.mend(0), -2);
        due("season again", room.season(3, 3), 1);
        due("undone", room.undo(), 2);
        due("undone", room.screen(0, 5), 3);
        due("whole", room.count(6), 2);
    }

    private static void stepped() {
        about = "14";
        ScreenRoom room = told(TWO_FOLK);
        due("no such one", room.step(2, 0), -1);
        due("no such one", room.step(-1, 0), -1);
        due("no such way", room.step(0, 4), -1);
        due("no such way", room.step(0, -1), -1);
        due("into a leaf", room.step(0, 0), -2);
        due("out of the room", room.step(0, 3), -2);
        due("nothing refused", room.count(7), 0);
        due("right, one season", room.step(0, 1), 10);
        due("column", room.folk(0, 2), 1);
        due("right, 0 to 2", room.step(0, 1), 12);
        due("left, 2 to 0", room.step(1, 3), 22);
        due("down", room.step(0, 2), 12);
        due("row", room.folk(0, 1), 2);
        due("up", room.step(0, 0), 12);
        ScreenRoom turned = told("room 1 4;screen a 3 0 0 1 0;screen b 0 0 3 1 0;folk x 0 0 1 0;");
        due("3 to 0", turned.step(0, 1), 1);
        due("0 to 3", turned.step(0, 3), 4);
        due("from a leaf", told("screen a 0 0 0 2 0;folk x 5 0 0 0;").step(0, 2), 5);
        ScreenRoom law = told("room 1 4;screen a 3 0 0 1 0;screen b 0 0 3 1 0;folk x 7 0 1 0;law ageing season*4-from+age;");
        due("law, 0*4-3+7", law.step(0, 1), 11);
        due("law, 3*4-0+11 is 9 at most", law.step(0, 3), 20);
        ScreenRoom below = told("room 1 4;screen a 3 0 0 1 0;screen b 0 0 3 1 0;folk x 7 0 1 0;law ageing 0-1;");
        due("law, 0 at least", below.step(0, 1), 7);
        ScreenRoom error = told("room 1 4;screen a 3 0 0 1 0;screen b 0 0 3 1 0;folk x 7 0 1 0;law ageing 1/(from-3);");
        due("error", error.step(0, 1), 8);
        due("no error", error.step(0, 3), 8);
        ScreenRoom old = told("room 1 4;screen a 3 0 0 1 0;screen b 0 0 3 1 0;folk x 99 0 1 0;law ageing 9;");
        for (int k = 0; k < 110; k++) old.step(0, k % 2 == 0 ? 1 : 3);
        due("999 at most", old.folk(0, 0), 999);
    }

    private static void hours() {
        about = "15";
        ScreenRoom room = told(TWO_FOLK + "carry a 2 2 0;carry b 2 2 0;carry a 3 2 0;step x 1 1;step x 1 0;step x 3 1;");
        due("0", room.go(0), 0);
        due("-1", room.go(-1), -1);
        due("100", room.go(100), -1);
        due("2", room.go(2), 2);
        due("refused", room.count(7), 1);
        due("x", room.folk(0, 2), 1);
        due("done", room.folk(0, 4), 2);
        due("3", room.go(1), 3);
        due("carried", room.screen(0, 1), 2);
        due("b refused", room.count(7), 2);
        due("carried to where it is", room.go(1), 4);
        due("isn't refused", room.count(7), 2);
        due("all", room.count(8), room.folk(0, 4) + room.folk(1, 4));
        ScreenRoom pay = told("screen a 0 0 0 1 0;folk x 0 1 1 0;folk y 0 1 1 1;law pay 50+hour*60;");
        pay.go(1);
        due("pay", pay.folk(0, 4), 50);
        pay.go(1);
        due("pay, 99 at most", pay.folk(0, 4), 149);
        due("not of its season", pay.folk(1, 4), 0);
        for (int k = 0; k < 3; k++) pay.go(99);
        due("9999 at most", pay.folk(0, 4), 9999);
        ScreenRoom owing = told("screen a 0 0 0 1 0;folk x 0 1 1 0;law pay 0-5;");
        owing.go(3);
        due("0 at least", owing.folk(0, 4), 0);
        ScreenRoom wrongPay = told("screen a 0 0 0 1 0;folk x 0 1 1 0;law pay 5/done;");
        wrongPay.go(1);
        due("1 with an error", wrongPay.folk(0, 4), 1);
        wrongPay.go(1);
        due("then by the law", wrongPay.folk(0, 4), 6);
        ScreenRoom late = new ScreenRoom();
        for (int k = 0; k < 100; k++) late.go(99);
        due("9900", late.count(5), 9900);
        due("behind 9900", late.go(1), -1);
        due("still", late.go(0), 9900);
    }

    private static void moths() {
        about = "(4)";
        // From seed 1: 1103527590, 377401575, 662824084, .. by 65536: 16838, 5758, 10113: 38, 58, 13 of a hundred.
        String two = "screen a 1 0 0 4 0;screen b 2 1 0 4 0;seed 1;";
        ScreenRoom low = told(two + "moth 39;");
        low.go(9);
        due("no moths yet", low.count(6), 8);
        low.go(1);
        due("38 is below 39", low.screen(0, 5), 14);
        due("58 isn't", low.screen(1, 5), 15);
        low.go(9);
        due("not in between", low.count(6), 7);
        low.go(1);
        due("13 is", low.screen(0, 5), 12);
        ScreenRoom even = told(two + "moth 38;");
        even.go(10);
        due("38 isn't below 38", even.screen(0, 5), 15);
        ScreenRoom law = told(two + "moth 100;law cut (season=2)*39;");
        law.go(10);
        due("0: no number", law.screen(0, 5), 15);
        due("so 38 is for b", law.screen(1, 5), 14);
        ScreenRoom sure = told(two + "law cut (season=2)*39+(season=1)*777;");
        sure.go(10);
        due("100 and no number", sure.screen(0, 5), 14);
        due("so 38 is for b", sure.screen(1, 5), 14);
        ScreenRoom error = told(two + "moth 100;law cut 1/0;");
        error.go(10);
        due("moth with an error", error.count(6), 6);
        ScreenRoom bare = told("screen a 1 0 0 1 0;screen b 2 1 0 4 0;seed 1;law cut (season=1)*100+39*(season=2);");
        bare.go(20);
        due("none for one without whole leaves: 38, then 58", bare.screen(1, 5), 14);
        about = "32";
        ScreenRoom room = told(two + "moth 39;");
        due("0 at least", room.chance(1, 10, 0), 10);
        due("sure", room.chance(1, 9, 8), 10);
        int seven = 0;
        int eight = 0;
        long number = 1;
        for (int k = 0; k < 10; k++) {
            int cut = 0;
            for (int s = 0; s < 2; s++) {
                number = (number * 1103515245L + 12345L) % 2147483648L;
                if (number / 65536 % 100 < 39) cut++;
            }
            if (cut <= 1) seven++;
            if (cut == 0) eight++;
        }
        due("7 of 8", room.chance(1, 10, 7), seven);
        due("8 of 8", room.chance(1, 10, 8), eight);
        due("9 of 8", room.chance(1, 10, 9), 0);
        due("nothing changes", room.count(6), 8);
        due("seed", room.chance(-1, 10, 7), -1);
        due("seed", room.chance(2147483647, 99, 20), 0);
        due("n", room.chance(1, 0, 7), -1);
        due("n", room.chance(1, 100, 7), -1);
        due("whole", room.chance(1, 1, 21), -1);
        due("whole", room.chance(1, 1, -1), -1);
        room.go(10);
        due("own numbers go on as if none had been drawn", room.screen(0, 5), 14);
    }

    private static void ahead() {
        about = "16";
        ScreenRoom room = told(TWO_FOLK + "carry a 2 2 0;step x 1 1;step x 3 1;step y 0 3;step y 0 2;moth 50;");
        due("age", room.ahead(1, 0, 1), 22);
        due("now", room.ahead(0, 0, 1), 20);
        due("done", room.ahead(3, 1, 0), 3);
        due("refused", room.ahead(1, 2, 77), 1);
        due("whole", room.ahead(9, 3, -5), 4);
        due("whole, 50 at least cuts", room.ahead(10, 3, 0), 2);
        due("whole", room.ahead(20, 3, 0), 0);
        due("cells", room.ahead(20, 4, 4), 12);
        due("cells", room.ahead(2, 4, 0), 7);
        due("nothing changes", room.count(5), 0);
        due("n", room.ahead(-1, 3, 0), -1);
        due("n", room.ahead(100, 3, 0), -1);
        due("99", room.ahead(99, 3, 0), 0);
        due("what", room.ahead(1, 5, 0), -1);
        due("what", room.ahead(1, -1, 0), -1);
        due("folk", room.ahead(1, 0, 2), -1);
        due("folk", room.ahead(1, 1, -1), -1);
        due("season", room.ahead(1, 4, 5), -1);
        due("season", room.ahead(1, 4, -1), -1);
        room.go(1);
        due("more", room.ahead(5, 2, 0), 0);
        ScreenRoom less = told("screen a 1 0 0 4 0;moth 49;");
        due("49 doesn't", less.ahead(99, 3, 0), 4);
    }

    private static void waysThere() {
        about = "17";
        // A wall down the second column but for its last row.
        ScreenRoom room = told("room 4 3;screen a 0 0 1 3 1;screen b 1 0 2 1 0;folk x 0 0 0 0;folk y 0 0 1 1;folk z 0 3 2 1;");
        due("there", room.steps(0, 0, 0), 0);
        due("round", room.steps(0, 1, 2), 7);
        due("into a leaf", room.steps(0, 1, 1), -2);
        due("out of a leaf", room.steps(1, 0, 0), 1);
        due("on a leaf", room.steps(1, 0, 1), 0);
        due("into another leaf", room.steps(1, 0, 2), -2);
        due("no such one", room.steps(3, 0, 0), -1);
        due("no such cell", room.steps(0, 4, 0), -1);
        due("no such cell", room.steps(0, 0, 3), -1);
        due("no such cell", room.steps(0, -1, 0), -1);
        ScreenRoom wall = told("room 2 3;screen a 0 0 1 2 1;folk x 0 0 0 0;folk y 0 0 2 0;");
        due("no way", wall.steps(0, 1, 2), -2);
        about = "18";
        due("no way", wall.young(0, 1, 2), -2);
        due("there", wall.young(0, 0, 0), 0);
        due("no such one", wall.young(2, 0, 0), -1);
        due("no such cell", wall.young(0, 2, 0), -1);
        due("all in season 0", room.young(0, 1, 2), 0);
        due("back, 1 to 0", told("room 1 4;screen a 0 0 0 1 0;screen b 1 0 3 1 0;folk x 0 0 2 0;").young(0, 0, 1), 3);
        ScreenRoom law = told("room 1 4;screen a 3 0 0 1 0;screen b 0 0 3 1 0;folk x 0 0 1 0;law ageing 9;");
        due("whatever the law", law.young(0, 0, 2), 1);
        // The straight way leads through season 2 and ages by 4, the long one stays in season 0.
        ScreenRoom detour = told("room 3 5;screen a 0 0 0 1 0;screen b 0 0 4 1 0;screen c 2 2 2 1 0;folk x 0 2 0 0;");
        due("detour", detour.young(0, 2, 4), 0);
        due("steps", detour.steps(0, 2, 4), 6);
        about = "25";
        due("meet", room.meet(0, 2, 0), 5);
        due("first cell", room.meet(0, 2, 1), 0);
        due("other order", room.meet(2, 0, 1), 0);
        due("out of a leaf", room.meet(0, 1, 0), 1);
        due("first cell", room.meet(0, 1, 1), 0);
        due("no way", wall.meet(0, 1, 0), -2);
        due("no way", wall.meet(0, 1, 1), -2);
        due("alike", room.meet(0, 0, 0), -1);
        due("no such one", room.meet(0, 3, 0), -1);
        due("no such one", room.meet(-1, 0, 0), -1);
        due("what", room.meet(0, 1, 2), -1);
        due("what", room.meet(0, 1, -1), -1);
        due("in one cell", told("screen a 0 1 1 1 0;folk x 0 1 1 0;folk y 0 1 1 0;").meet(0, 1, 1), 11);
        about = "27";
        ScreenRoom near = told("folk a 0 1 1 0;folk b 0 1 1 0;folk c 0 0 1 0;folk d 0 1 2 0;folk e 0 2 2 0;folk f 0 3 1 0;screen s 0 0 1 1 0;");
        due("next to a", near.nextTo(0), 2 + 4 + 8);
        due("next to e", near.nextTo(4), 8);
        due("next to f", near.nextTo(5), 0);
        due("no such one", near.nextTo(6), -1);
        due("no such one", near.nextTo(-1), -1);
    }

    private static void standing() {
        about = "19";
        ScreenRoom room = told("room 2 4;screen a 1 0 0 2 0;screen b 2 1 3 1 0;folk x 0 0 3 1;folk y 0 1 2 1;folk z 0 1 0 2;");
        // a along at (0,2) has x's cell and is one step from y's, as b is: a is the first.
        due("row", room.stand(0, 0), 0);
        due("column", room.stand(0, 1), 1);
        due("along", room.stand(0, 2), 0);
        due("how many", room.stand(0, 3), 2);
        // b at (1,0) has z's cell, and is as far from y's as a is.
        due("b", room.stand(1, 3), 3);
        due("b row", room.stand(1, 0), 1);
        due("b column", room.stand(1, 1), 0);
        due("nothing changes", room.screen(0, 2), 0);
        due("what", room.stand(0, 4), -1);
        due("what", room.stand(0, -1), -1);
        due("screen", room.stand(2, 0), -1);
        due("screen", room.stand(-1, 0), -1);
        ScreenRoom alone = told("room 2 2;screen a 1 1 0 2 0;");
        due("first", alone.stand(0, 0) * 100 + alone.stand(0, 1) * 10 + alone.stand(0, 2), 0);
        due("nobody", alone.stand(0, 3), 0);
        ScreenRoom turned = told("room 2 2;screen a 1 0 0 1 0;screen b 2 0 1 2 1;");
        due("b can only stay down, in the first column not", turned.stand(1, 1) * 10 + turned.stand(1, 2), 11);
    }

    private static void worths() {
        about = "21";
        ScreenRoom room = told(TWO_FOLK);
        due("a", room.worth(0), 2);
        due("b", room.worth(1), 2);
        due("none", room.worth(2), Integer.MIN_VALUE);
        due("none", room.worth(-1), Integer.MIN_VALUE);
        // x works in 1 under a; b is nearer to x than a and takes the season away.
        ScreenRoom harm = told("room 1 5;screen a 1 0 0 1 0;screen b 2 0 4 1 0;folk x 0 0 3 1;");
        due("a: alone 1, behind b 0", harm.worth(0), 1);
        due("b: alone 0, behind a -1", harm.worth(1), -1);
        ScreenRoom three = told("room 1 5;screen a 1 0 0 1 0;screen b 2 0 4 1 0;screen c 1 0 2 1 0;folk x 0 0 3 1;");
        // At work with a, c, a and c: 1; else 0 (c is as far from x as b, but b is the first).
        due("a", three.worth(0), 2);
        due("b", three.worth(1), -4);
        due("c", three.worth(2), 2);
        about = "26";
        due("both", room.needed(), 3);
        due("none works", harm.needed(), 0);
        ScreenRoom either = told("room 1 5;screen a 1 0 0 1 0;screen b 1 0 4 1 0;folk x 0 0 3 1;");
        due("the least bits", either.needed(), 1);
        ScreenRoom second = told("room 1 5;screen a 2 0 0 1 0;screen b 1 0 4 1 0;folk x 0 0 3 1;");
        due("the second", second.needed(), 2);
    }

    private static void rests() {
        about = "22, 23";
        ScreenRoom room = told(TWO);
        due("rests", room.rests(0, 1), 2);
        due("first", room.rest(0, 1, 0), 0);
        due("second", room.rest(0, 1, 1), 10);
        due("no more", room.rest(0, 1, 2), -2);
        due("much more", room.rest(0, 1, Integer.MAX_VALUE), -2);
        due("the other order", room.rests(1, 0), 2);
        due("the other order", room.rest(1, 0, 1), 1);
        due("below 0", room.rest(0, 1, -1), -1);
        due("alike", room.rests(0, 0), -1);
        due("alike", room.rest(1, 1, 0), -1);
        due("none", room.rests(0, 2), -1);
        due("none", room.rests(-1, 0), -1);
        due("none", room.rest(2, 0, 0), -1);
        due("nothing changes", room.screen(0, 4), 0);
        ScreenRoom row = told("room 1 5;screen a 0 0 0 2 0;screen b 1 0 3 2 0;");
        due("neither turns", row.rests(0, 1), 1);
        due("neither turns", row.rest(0, 1, 0), 0);
        // Turned, a has its first column too: b's leaf in the same cell is a's season then, as a is the first.
        ScreenRoom over = told("room 3 3;screen a 0 0 1 3 1;screen b 1 2 0 1 0;");
        due("single leaves turn too", over.rests(0, 1), 2);
        due("by the first one's", over.rest(0, 1, 0), 0);
        due("then the second one's", over.rest(0, 1, 1), 1);
    }

    private static void holds() {
        about = "24";
        ScreenRoom room = told("screen a 0 0 0 1 0;screen b 0 1 0 2 0;moth 40;law cut (season=0)*100*(whole=1);");
        due("1", room.holds(0, 0, 0), 1);
        due("1", room.holds(0, 0, 1), 1);
        due("3/5", room.holds(0, 1, 0), 3);
        due("3/5", room.holds(0, 1, 1), 5);
        due("729", room.holds(0, 6, 0), 729);
        due("15625", room.holds(0, 6, 1), 15625);
        due("n", room.holds(0, 7, 0), -1);
        due("n", room.holds(0, -1, 0), -1);
        due("what", room.holds(0, 1, 2), -1);
        due("what", room.holds(0, 1, -1), -1);
        due("screen", room.holds(2, 1, 0), -1);
        due("screen", room.holds(-1, 1, 0), -1);
        room.go(10);
        due("none is whole", room.holds(0, 6, 0), 1);
        due("none is whole", room.holds(0, 6, 1), 1);
        due("one is", room.holds(1, 1, 1), 5);
        ScreenRoom odd = told("screen a 0 0 0 1 0;moth 1;");
        due("99 to the 6", odd.holds(0, 6, 0), 941480149401L);
        due("100 to the 6", odd.holds(0, 6, 1), 1000000000000L);
        ScreenRoom sure = told("screen a 0 0 0 1 0;moth 100;");
        due("0", sure.holds(0, 2, 0), 0);
        due("of 1", sure.holds(0, 2, 1), 1);
    }

    private static void seen() {
        about = "28";
        ScreenRoom room = told(TWO_FOLK + "carry a 2 2 0;");
        due("hours", room.see(0, 0, 0, 0, true), -1);
        due("hours", room.see(41, 0, 0, 0, true), -1);
        due("row", room.see(1, 3, 0, 0, true), -1);
        due("column", room.see(1, 0, 4, 0, true), -1);
        due("column", room.see(1, 0, -1, 0, true), -1);
        due("season", room.see(1, 0, 0, 5, true), -1);
        due("season", room.see(1, 0, 0, -1, true), -1);
        due("0", room.see(40, 2, 3, 4, false), 0);
        due("1", room.see(1, 0, 0, 2, true), 1);
        due("count", room.count(12), 2);
        due("by", room.count(13), 2);
        about = "29";
        due("out", room.out(-1), -1);
        due("out", room.out(2), -1);
        due("out", room.out(1), 2);
        due("out of out", room.out(2), 3);
        for (int k = 4; k < 23; k++) due("see", room.see(1, 0, 0, 2, true), k);
        due("the last", room.out(0), 23);
        due("too many", room.out(0), -1);
        due("too many", room.see(1, 0, 0, 2, true), -1);
        about = "30";
        ScreenRoom other = told(TWO_FOLK + "carry a 2 2 0;");
        due("by all", other.known(-1), true);
        due("by 0", other.known(0), true);
        due("by 1", other.known(1), false);
        due("by -2", other.known(-2), false);
        other.see(1, 0, 0, 1, true);
        due("still 0", other.count(13), 0);
        due("0 are known", other.painted(0), 15);
        due("by 1", other.known(1), true);
        due("1", other.painted(0), 2);
        other.out(0);
        due("not by the second", other.painted(0), 2);
        due("by all", other.known(-1), true);
        due("struck", other.painted(0), 15);
        other.out(1);
        due("the striking one is struck", other.painted(0), 2);
        due("3", other.count(13), 3);
        due("by 2", other.known(2), true);
        due("2", other.count(13), 2);
        due("struck", other.painted(0), 15);
        other.known(-1);
        other.out(2);
        due("and that one too", other.painted(0), 15);
    }

    private static void painted() {
        about = "31";
        ScreenRoom room = told(TWO_FOLK + "carry a 2 2 0;");
        room.see(2, 0, 0, 3, true);
        due("by the first", room.painted(0), 8);
        due("not by the second", room.painted(1), 0);
        room.out(0);
        room.see(3, 0, 0, 1, false);
        // Behind three hours a is at (2,0): (0,0) is two from it and four from b.
        due("all but 1", room.painted(0), 13);
        room.see(3, 0, 3, 2, true);
        due("b is 2", room.painted(1), 4);
        room.turn(0);
        room.go(50);
        due("nothing done by call", room.painted(1), 4);
        due("no such one", room.painted(2), -1);
        due("no such one", room.painted(-1), -1);
        ScreenRoom cut = told("screen a 0 0 0 1 0;law cut 100*(season=3);");
        cut.see(10, 0, 0, 4, true);
        due("cut by the law of its season", cut.painted(0), 8);
        cut.out(0);
        cut.see(9, 0, 0, 4, true);
        due("not yet", cut.painted(0), 0);
        cut.out(2);
        cut.see(10, 0, 0, 4, false);
        due("those that stay whole", cut.painted(0), 7);
        ScreenRoom none = new ScreenRoom();
        none.see(1, 0, 0, 0, true);
        due("no screen", none.painted(0), -1);
    }

    private static void tried() {
        about = "33";
        ScreenRoom room = told(TWO_FOLK + "carry a 2 2 0;step x 1 1;step x 3 1;step y 0 3;");
        due("as it goes", room.tried(0, 0, 4), 3);
        due("without a", room.tried(2, 0, 4), 4);
        due("without b", room.tried(2, 1, 4), 4);
        due("not carried", room.tried(3, 0, 4), 3);
        due("no steps", room.tried(4, 0, 4), 6);
        due("n 0", room.tried(4, 0, 0), 0);
        due("nothing changes", room.count(8), 0);
        due("what", room.tried(6, 0, 1), -1);
        due("what", room.tried(-1, 0, 1), -1);
        due("i", room.tried(0, 1, 1), -1);
        due("i", room.tried(5, 1, 1), -1);
        due("i", room.tried(2, 2, 1), -1);
        due("i", room.tried(2, -1, 1), -1);
        due("n", room.tried(0, 0, 100), -1);
        due("n", room.tried(0, 0, -1), -1);
        ScreenRoom eaten = told("screen a 0 0 0 1 0;moth 60;folk x 0 1 1 0;");
        due("eaten at the tenth", eaten.tried(0, 0, 30), 10);
        due("no moths", eaten.tried(1, 0, 30), 30);
        ScreenRoom sure = told("screen a 0 0 0 1 0;moth 100;folk x 0 1 1 0;");
        sure.go(15);
        due("none", sure.tried(0, 0, 30), 0);
        due("whole now", sure.tried(5, 0, 30), 5);
        due("more, not all", sure.count(8), 10);
        // Without b its cell is free for a, and the law sees only a's leaves.
        ScreenRoom gone = told("room 1 4;screen a 0 0 0 1 0;screen b 1 0 2 1 0;folk x 0 0 3 0;carry a 0 0 2;law pay whole*10+near;");
        due("refused", gone.tried(0, 0, 2), 0);
        due("carried", gone.tried(2, 1, 2), 22);
    }

    private static void undone() {
        about = "34";
        ScreenRoom room = told(TWO_FOLK);
        due("none", room.undo(), -1);
        room.carry(0, 0, 1);
        room.turn(0);
        room.step(1, 3);
        due("3", room.count(14), 3);
        due("step", room.undo(), 2);
        due("age", room.folk(1, 0), 20);
        due("column", room.folk(1, 2), 2);
        due("turn", room.undo(), 1);
        due("along", room.screen(0, 4), 0);
        due("leaf", room.leaf(0, 2), 0);
        due("carry", room.undo(), 0);
        due("column", room.screen(0, 2), 0);
        due("season", room.season(0, 3), 2);
        due("none", room.undo(), -1);
        room.turn(0);
        due("no hour", room.go(0), 0);
        due("still", room.count(14), 1);
        room.go(1);
        due("an hour", room.undo(), -1);
        for (int k = 0; k < 25; k++) room.turn(0);
        due("20 at most", room.count(14), 20);
        for (int k = 19; k >= 0; k--) due("undo", room.undo(), k);
        due("none", room.undo(), -1);
        due("five turns are left", room.screen(0, 4), 0);
    }

    private static void images() {
        about = "35, 36";
        ScreenRoom room = told("screen a 0 0 0 3 0;folk x 5 1 1 0;moth 50;seed 7;step x 2 0;");
        due("none", room.back(), -1);
        room.go(15);
        due("keep", room.keep(), 15);
        int whole = room.count(6);
        int done = room.count(8);
        int refused = room.count(7);
        due("refused", refused, 1);
        room.go(99);
        int wholeThen = room.count(6);
        room.turn(0);
        room.step(0, 2);
        room.see(1, 0, 0, 0, true);
        due("back", room.back(), 15);
        due("nothing to undo", room.undo(), -1);
        due("whole", room.count(6), whole);
        due("done", room.count(8), done);
        due("refused", room.count(7), refused);
        due("row", room.folk(0, 1), 1);
        due("along", room.screen(0, 4), 0);
        due("seen stays", room.count(12), 1);
        due("seasons", room.season(0, 0) == 4, whole == 0);
        room.go(99);
        due("numbers go on as before", room.count(6), wholeThen);
        due("once more", room.back(), 15);
        due("another", room.keep(), 15);
        room.go(1);
        due("another", room.keep(), 16);
        room.go(1);
        due("the latest", room.back(), 16);
        room.turn(0);
        room.keep();
        due("keeping leaves the undoing", room.undo(), 0);
        due("undone", room.screen(0, 4), 0);
        room.back();
        due("as kept", room.screen(0, 4), 1);
    }

    private static void counts() {
        about = "37";
        ScreenRoom room = told("room 3 4;screen a 0 0 0 2 0;screen b 2 1 3 2 1;folk x 10 1 0 0;folk y 20 2 2 2;folk z 3 0 0 1;"
            + "step x 0 3;step y 0 3;law pay 1+1;");
        int[] first = {2, 3, 3, 4, 3, 0, 4, 0, 0, 33, 8, 2, 0, 0, 0};
        for (int what = 0; what < first.length; what++) due("count " + what, room.count(what), first[what]);
        room.go(1);
        int[] then = {2, 3, 3, 4, 3, 1, 4, 1, 2, 35, 8, 1, 0, 0, 0};
        for (int what = 0; what < then.length; what++) due("count " + what, room.count(what), then[what]);
        ScreenRoom full = told("screen a 0 0 0 1 0;screen b 0 0 1 1 0;screen c 0 0 2 1 0;screen d 0 0 3 1 0;screen e 0 1 0 4 0;"
            + "folk a 1 0 0 0;folk b 1 0 1 0;folk c 1 3 3 0;folk d 1 1 0 1;folk e 1 2 0 0;folk f 1 2 2 0;");
        int[] most = {5, 6, 4, 4, 0, 0, 8, 0, 0, 6, 8, 5, 0, 0, 0};
        for (int what = 0; what < most.length; what++) due("full count " + what, full.count(what), most[what]);
        full.go(3);
        due("done by five", full.count(8), 15);
        due("turned", full.turn(4), false);
        due("carried", full.carry(4, 3, 0), true);
        due("needed", full.needed(), 1);
        due("stand", full.stand(4, 3), 5);
        due("worth", full.worth(4) + full.worth(3) + full.worth(2) + full.worth(1) + full.worth(0), 120 * 5);
        due("other", room.count(15), -1);
        due("other", room.count(-1), -1);
    }

    public static void main(String[] args) {
        newObject();
        feeding();
        texts();
        faultCall();
        wrongTokens();
        tooMuch();
        toldTwice();
        names();
        folkAndScreens();
        seasons();
        laws();
        carriedAndTurned();
        mended();
        stepped();
        hours();
        moths();
        ahead();
        waysThere();
        standing();
        worths();
        rests();
        holds();
        seen();
        painted();
        tried();
        undone();
        images();
        counts();
        end();
    }
}
