/** The TEXT and its FAULTS: the last that is still allowed and the first that is not, sentence by sentence. */
public final class TextBoundaryTests extends Due {
    private static final String[] LANGUAGE = {"room", "screen", "folk", "carry", "step", "moth", "seed", "law", "ageing", "pay",
        "cut", "or", "and", "not", "season", "from", "age", "done", "near", "whole", "hour"};
    private static final String[] NAMES = {"season", "from", "age", "done", "near", "whole", "hour"};
    private static final String[] COMPARISONS = {"<", "<=", "=", "<>", ">=", ">"};
    private static final String SCREEN = "screen a 0 0 0 1 0;";
    private static final String FOLK = "folk a 0 0 0 0;";

    /** A number between both parts may be least .. most: fault 2 at it beyond, also where an int or a long would wrap around. */
    private static void edge(String before, String behind, int least, int most) {
        told(before + least + behind);
        told(before + most + behind);
        told(before + "000000000000000000000" + most + behind);
        if (least > 0) faulty(before + (least - 1) + behind, 2, before.length());
        faulty(before + (most + 1) + behind, 2, before.length());
        faulty(before + (4294967296L + least) + behind, 2, before.length());
        faulty(before + "2147483648" + behind, 2, before.length());
        faulty(before + "1844674407370955161" + (6 + least) + behind, 2, before.length());
        faulty(before + "99999999999999999999999999999999" + behind, 2, before.length());
    }

    private static void emptyText() {
        about = "A TEXT: { LINE ';' }";
        due("no byte", new ScreenRoom().text(0), 0);
        told("");
        told(" ");
        told("\n\n \n");
        told("moth 1;");
        told(" moth 1 ; ");
        faulty(";", 1, 0);
        faulty("moth 1;;", 1, 7);
        faulty("moth 1", 1, 6);
        faulty("moth 1 moth 1;", 1, 7);
        faulty("moth 1 1;", 1, 7);
        faulty("moth;", 1, 4);
        faulty("1;", 1, 0);
        faulty("a;", 1, 0);
    }

    private static void fewNumbers() {
        about = "LINE: so many N, not one less, not one more";
        String[] lines = {"room 4 4", "screen b 0 1 1 1 0", "folk b 0 0 0 0", "carry a 0 0 0", "step a 0 0", "moth 0", "seed 0"};
        for (String line : lines) {
            boolean isRoom = line.startsWith("room");
            String ahead = isRoom ? "" : SCREEN + FOLK;
            String whole = ahead + line;
            told(whole + ";");
            faulty(whole, 1, whole.length());
            faulty(whole + " 0;", 1, whole.length() + 1);
            faulty(whole + " a;", 1, whole.length() + 1);
            int last = whole.lastIndexOf(' ');
            faulty(whole.substring(0, last) + ";", 1, last);
            faulty(whole.substring(0, last), 1, last);
            faulty(whole.substring(0, last) + " a;", 1, last + 1);
        }
    }

    private static void words() {
        about = "W: one of 1 .. 6 letters";
        told("screen z 0 0 0 1 0;folk z 0 0 0 0;carry z 0 0 0;step z 0 0;");
        told("screen zzzzzz 0 0 0 1 0;folk zzzzzz 0 0 0 0;carry zzzzzz 0 0 0;step zzzzzz 0 0;");
        faulty("screen zzzzzzz 0 0 0 1 0;", 1, 7);
        faulty("folk zzzzzzz 0 0 0 0;", 1, 5);
        // A word cut down to six letters would be one that is told.
        faulty("screen zzzzzz 0 0 0 1 0;carry zzzzzza 0 0 0;", 1, 30);
        faulty("folk zzzzzz 0 0 0 0;step zzzzzza 0 0;", 1, 25);
        faulty("screen 0 0 0 1 0;", 1, 7);
        faulty("screen a b 0 0 1 0;", 1, 9);
        faulty("screena 0 0 0 1 0;", 1, 0);
        faulty("seedsss 0;", 1, 0);
        faulty("law ageings 1;", 1, 4);
        about = "W: none of those of the language";
        for (String word : LANGUAGE) {
            faulty("screen " + word + " 0 0 0 1 0;", 1, 7);
            faulty("folk " + word + " 0 0 0 0;", 1, 5);
            faulty("carry " + word + " 0 0 0;", 1, 6);
            faulty("step " + word + " 0 0;", 1, 5);
            String less = word.substring(0, word.length() - 1);
            told("screen " + less + " 0 0 0 1 0;folk " + less + " 0 0 0 0;carry " + less + " 0 0 0;step " + less + " 0 0;");
            String more = word.length() < 6 ? word + "s" : "x" + word.substring(1);
            told("screen " + more + " 0 0 0 1 0;folk " + more + " 0 0 0 0;carry " + more + " 0 0 0;step " + more + " 0 0;");
        }
    }

    private static void signs() {
        about = "Words: small letters in a row; N: digits";
        told("screen a 0 0 0 1 0;screen z 0 1 1 1 0;");
        told("law pay 0+1+2+3+4+5+6+7+8+9;");
        char[] none = {'`', '{', 'A', 'Z', '@', '[', ':', '.', ',', '!', '_', '#', '\'', 127, 128, 225, 250, 255, 176, 185, 187};
        for (char sign : none) {
            faulty("screen " + sign + " 0 0 0 1 0;", 1, 7);
            faulty("screen a" + sign + " 0 0 0 1 0;", 1, 8);
            faulty("moth " + sign + ";", 1, 5);
            faulty("moth 1" + sign + ";", 1, 6);
            faulty("law pay 1" + sign + ";", 1, 9);
            faulty("law pay " + sign + ";", 1, 8);
            faulty("moth 1;" + sign, 1, 7);
            faulty("" + sign, 1, 0);
        }
        told("moth1;screen a0 0 0 1 0;");
        faulty("moth 1 0;", 1, 7);
        faulty("mo th 1;", 1, 0);
        about = "Blanks 10, 32";
        told("\n moth \n\n 1 \n ; \n");
        char[] noBlanks = {0, 1, 8, 9, 11, 12, 13, 31, 33, 138, 160};
        for (char sign : noBlanks) {
            faulty("moth" + sign + "1;", 1, 4);
            faulty(sign + "moth 1;", 1, 0);
            faulty("moth 1;" + sign, 1, 7);
        }
    }

    private static void comparisons() {
        about = "A = (or > behind <) right behind < or > belongs to it";
        for (String sign : COMPARISONS) {
            told("law pay 1" + sign + "1;");
            told("law pay 1 " + sign + " 1;");
            told("law pay 1 " + sign + "\n1;");
            faulty("law pay " + sign + "1;", 1, 8);
            faulty("law pay 1" + sign + ";", 1, 9 + sign.length());
            faulty("law pay 1" + sign + "1" + sign + "1;", 1, 10 + sign.length());
        }
        faulty("law pay 1< =2;", 1, 11);
        faulty("law pay 1> =2;", 1, 11);
        faulty("law pay 1< >2;", 1, 11);
        faulty("law pay 1<\n>2;", 1, 11);
        faulty("law pay 1=<2;", 1, 10);
        faulty("law pay 1=>2;", 1, 10);
        faulty("law pay 1><2;", 1, 10);
        faulty("law pay 1>>2;", 1, 10);
        faulty("law pay 1<<2;", 1, 10);
        faulty("law pay 1==2;", 1, 10);
        faulty("law pay 1<>=2;", 1, 11);
        faulty("law pay 1<=>2;", 1, 11);
        faulty("law pay 1<==2;", 1, 11);
        faulty("law pay 1>==2;", 1, 11);
        // The text ends between both: what is behind is none of it.
        faultyFirst("law pay 1<=2;", 10, 10);
        faultyFirst("law pay 1<>2;", 10, 10);
        faultyFirst("law pay 1>=2;", 10, 10);
        about = "C: S [ one comparison S ]";
        faulty("law pay 1<2<3;", 1, 11);
        faulty("law pay (1<2<3);", 1, 12);
        faulty("law pay 1+1<2*2>3;", 1, 15);
        faulty("law pay not 1<2=3;", 1, 15);
        faulty("law pay 1<(2)<3;", 1, 13);
        faulty("law pay (1)<2<3;", 1, 13);
        faulty("law pay (1<2)<3<4;", 1, 15);
        faulty("law pay 1 and 1<2<3;", 1, 17);
        told("law pay (1<2)<3;");
        told("law pay 1<(2<3);");
        told("law pay (1<2)<(3<4);");
        told("law pay 1<2 and 2<3 or 3<4;");
        told("law pay not 1<2 and not 2<3;");
    }

    private static void grammar() {
        about = "E: what may stand where";
        told("law pay not not not 1;");
        told("law pay not(not(1));");
        told("law pay 1 and not 1 or not 1;");
        told("law pay 1+(not 1);");
        told("law pay 1<(not 1);");
        faulty("law pay 1+not 1;", 1, 10);
        faulty("law pay 1*not 1;", 1, 10);
        faulty("law pay 1<not 1;", 1, 10);
        faulty("law pay 1=1+not 1;", 1, 12);
        faulty("law pay not;", 1, 11);
        faulty("law pay and 1;", 1, 8);
        faulty("law pay or 1;", 1, 8);
        faulty("law pay 1 and or 1;", 1, 14);
        faulty("law pay 1 and and 1;", 1, 14);
        faulty("law pay 1+ +1;", 1, 11);
        faulty("law pay +1;", 1, 8);
        faulty("law pay *1;", 1, 8);
        faulty("law pay 1 1;", 1, 10);
        faulty("law pay 1 age;", 1, 10);
        faulty("law pay age 1;", 1, 12);
        faulty("law pay age age;", 1, 12);
        faulty("law pay 1(1);", 1, 9);
        faulty("law pay (1)(1);", 1, 11);
        faulty("law pay (1)1;", 1, 11);
        faulty("law pay (1)not 1;", 1, 11);
        faulty("law pay ();", 1, 9);
        faulty("law pay );", 1, 8);
        faulty("law pay 1);", 1, 9);
        faulty("law pay (1));", 1, 11);
        faulty("law pay (1;", 1, 10);
        faulty("law pay ((1);", 1, 12);
        faulty("law pay (1+);", 1, 11);
        faulty("law pay (", 1, 9);
        faulty("law pay", 1, 7);
        faulty("law pay ;", 1, 8);
        faulty("law;", 1, 3);
        faulty("law 1;", 1, 4);
        faulty("law a 1;", 1, 4);
        for (String word : LANGUAGE) {
            boolean isRule = word.equals("ageing") || word.equals("pay") || word.equals("cut");
            if (isRule) told("law " + word + " 1;");
            else faulty("law " + word + " 1;", 1, 4);
            boolean isLine = "room screen folk carry step moth seed law".contains(word) && !word.equals("or");
            faulty(word, 1, isLine ? word.length() : 0);
        }
        faulty("law cuts 1;", 1, 4);
        faulty("law pay pay;", 1, 8);
        faulty("law pay room;", 1, 8);
        faulty("law pay a;", 1, 8);
        faulty("law pay agee;", 1, 8);
        faulty("law pay seasons;", 1, 8);
        for (String name : NAMES) {
            told("law pay " + name + ";");
            told("law cut not " + name + "+" + name + ";");
        }
        about = "N of E 0 .. 9999";
        edge("law pay ", ";", 0, 9999);
        edge("law cut 1+(", ");", 0, 9999);
    }

    private static void rooms() {
        about = "room: ROWS, COLUMNS 1 .. 8";
        edge("room ", " 4;", 1, 8);
        edge("room 4 ", ";", 1, 8);
        ScreenRoom least = told("room 1 1;");
        due("rows", least.count(2), 1);
        due("columns", least.count(3), 1);
        ScreenRoom most = told("room 8 8;");
        due("rows", most.count(2), 8);
        due("columns", most.count(3), 8);
        ScreenRoom uneven = told("room 1 8;");
        due("rows", uneven.count(2), 1);
        due("columns", uneven.count(3), 8);
        about = "room: 4 and 4 without";
        ScreenRoom without = told("moth 1;");
        due("rows", without.count(2), 4);
        due("columns", without.count(3), 4);
        ScreenRoom again = told("room 8 8;");
        due("another text without", tell(again, "moth 1;"), 1);
        due("rows", again.count(2), 4);
        due("columns", again.count(3), 4);
        about = "room: if told, ahead of all screens, folk";
        told("moth 1;seed 1;law pay 1;law cut 1;law ageing 1;room 4 4;screen a 0 0 0 1 0;");
        faulty(SCREEN + "room 4 4;", 1, 19);
        faulty(FOLK + "room 4 4;", 1, 15);
        faulty("room 4 4;" + FOLK + "room 4 4;", 1, 24);
        faulty("room 4 4;" + SCREEN + "moth 1;room 4 4;", 1, 35);
        faulty(SCREEN + "room", 1, 19);
    }

    private static void screens() {
        about = "SCREENS: SEASON 0 .. 3";
        edge("screen a ", " 0 0 1 0;", 0, 3);
        about = "SCREENS: a ROW, a COLUMN (from 0 on) in the room";
        edge("screen a 0 ", " 0 1 0;", 0, 3);
        edge("screen a 0 0 ", " 1 0;", 0, 3);
        edge("room 1 1;screen a 0 ", " 0 1 0;", 0, 0);
        edge("room 1 1;screen a 0 0 ", " 1 0;", 0, 0);
        edge("room 2 7;screen a 0 ", " 0 1 0;", 0, 1);
        edge("room 2 7;screen a 0 0 ", " 1 0;", 0, 6);
        edge("room 8 8;screen a 0 ", " 0 1 0;", 0, 7);
        edge("room 8 8;screen a 0 0 ", " 1 0;", 0, 7);
        about = "SCREENS: LEAVES 1 .. 4";
        edge("screen a 0 0 0 ", " 0;", 1, 4);
        about = "SCREENS: 0 or 1";
        edge("screen a 0 0 0 1 ", ";", 0, 1);
        ScreenRoom most = told("room 8 8;screen a 3 4 7 4 1;screen b 0 0 0 1 0;screen c 1 7 3 4 0;");
        int[][] want = {{3, 4, 7, 4, 1, 15}, {0, 0, 0, 1, 0, 1}, {1, 7, 3, 4, 0, 15}};
        for (int k = 0; k < 3; k++) {
            for (int what = 0; what < 6; what++) due("screen " + k + " " + what, most.screen(k, what), want[k][what]);
        }
        about = "SCREENS, at most 5";
        String five = "screen a 0 0 0 1 0;screen b 0 0 1 1 0;screen c 0 0 2 1 0;screen d 0 0 3 1 0;screen e 0 1 0 1 0;";
        due("five", told(five).count(0), 5);
        faulty(five + "screen f 0 2 0 1 0;", 2, 95);
        faulty(five + "screen", 2, 95);
        faulty(five + "moth 1;screen a 9 9 9 9 9;", 2, 102);
        told(five + "folk a 0 0 0 0;carry e 0 0 0;");
    }

    private static void fitting() {
        about = "fault 5: all leaves must be in the room";
        for (int leaves = 1; leaves <= 4; leaves++) {
            told("room 1 8;screen a 0 0 " + (8 - leaves) + " " + leaves + " 0;");
            told("room 8 1;screen a 0 " + (8 - leaves) + " 0 " + leaves + " 1;");
            if (leaves > 1) {
                faulty("room 1 8;screen a 0 0 " + (9 - leaves) + " " + leaves + " 0;", 5, 26);
                faulty("room 8 1;screen a 0 " + (9 - leaves) + " 0 " + leaves + " 1;", 5, 26);
                faulty("room 1 8;screen a 0 0 0 " + leaves + " 1;", 5, 26);
                faulty("room 8 1;screen a 0 0 0 " + leaves + " 0;", 5, 26);
            }
        }
        told("room 1 1;screen a 0 0 0 1 0;");
        told("room 1 1;screen a 0 0 0 1 1;");
        faulty("room 1 1;screen a 0 0 0 2 0;", 5, 26);
        faulty("room 1 1;screen a 0 0 0 2 1;", 5, 26);
        about = "fault 5: none where another leaf is";
        // a has (1,1) to (1,3); then (1,1) to (3,1).
        String along = "room 5 5;screen a 0 1 1 3 0;screen b 0 ";
        told(along + "1 0 1 0;");
        told(along + "1 4 1 0;");
        told(along + "0 1 4 0;");
        told(along + "2 1 4 0;");
        faulty(along + "1 0 2 0;", 5, 45);
        faulty(along + "1 1 1 0;", 5, 45);
        faulty(along + "1 3 1 1;", 5, 45);
        faulty(along + "0 2 2 1;", 5, 45);
        faulty(along + "0 3 4 1;", 5, 45);
        told(along + "0 4 4 1;");
        told(along + "0 0 4 1;");
        told(along + "2 2 2 1;");
        String down = "room 5 5;screen a 0 1 1 3 1;screen b 0 ";
        told(down + "0 1 1 1;");
        told(down + "4 1 1 1;");
        told(down + "1 0 4 1;");
        told(down + "1 2 4 1;");
        faulty(down + "0 1 2 1;", 5, 45);
        faulty(down + "3 1 1 0;", 5, 45);
        faulty(down + "3 0 2 0;", 5, 45);
        faulty(down + "1 1 1 1;", 5, 45);
        told(down + "4 0 4 0;");
        told(down + "0 0 4 0;");
        faulty("screen a 0 0 0 1 0;screen b 0 1 0 1 0;screen c 0 1 0 1 0;", 5, 55);
        faulty("screen a 0 0 0 1 0;screen b 0 1 0 1 0;screen c 0 0 0 1 0;", 5, 55);
        about = "fault 5: at the last N, ahead of what is behind it";
        faulty("screen a 0 3 3 2 0", 5, 17);
        faulty("screen a 0 3 3 2 0 0;", 5, 17);
        faulty("screen a 0 3 3 2    1;", 5, 20);
        about = "of one place the least: 2 ahead of 5";
        faulty("screen a 0 3 3 4 2;", 2, 17);
    }

    private static void folk() {
        about = "FOLK: AGE 0 .. 99";
        edge("folk a ", " 0 0 0;", 0, 99);
        about = "FOLK: a ROW, a COLUMN in the room";
        edge("folk a 0 ", " 0 0;", 0, 3);
        edge("folk a 0 0 ", " 0;", 0, 3);
        edge("room 1 1;folk a 0 ", " 0 0;", 0, 0);
        edge("room 1 1;folk a 0 0 ", " 0;", 0, 0);
        edge("room 8 3;folk a 0 ", " 0 0;", 0, 7);
        edge("room 8 3;folk a 0 0 ", " 0;", 0, 2);
        about = "FOLK: the SEASON 0 .. 3 of its work";
        edge("folk a 0 0 0 ", ";", 0, 3);
        ScreenRoom most = told("room 8 8;folk a 99 7 7 3;folk b 0 0 0 0;");
        int[][] want = {{99, 7, 7, 3, 0, 4}, {0, 0, 0, 0, 0, 4}};
        for (int k = 0; k < 2; k++) {
            for (int what = 0; what < 6; what++) due("folk " + k + " " + what, most.folk(k, what), want[k][what]);
        }
        about = "FOLK, at most 6";
        String six = "folk a 0 0 0 0;folk b 0 0 0 0;folk c 0 0 0 0;folk d 0 0 0 0;folk e 0 0 0 0;folk f 0 0 0 0;";
        due("six", told(six).count(1), 6);
        faulty(six + "folk g 0 0 0 0;", 2, 90);
        faulty(six + "folk", 2, 90);
        faulty(six + "moth 1;folk a 100 9 9 9;", 2, 97);
        told(six + "screen a 0 0 0 1 0;step f 0 0;");
        about = "FOLK: it may be where a leaf is";
        told("screen a 0 0 0 4 0;folk a 0 0 0 0;folk b 0 0 0 0;");
        told("folk a 0 0 0 0;screen a 0 0 0 4 0;");
        told("room 1 1;screen a 0 0 0 1 0;folk a 0 0 0 0;");
    }

    private static void carriesAndSteps() {
        about = "carry: at an HOUR 0 .. 99 to a ROW, a COLUMN 0 .. 7";
        edge(SCREEN + "carry a ", " 0 0;", 0, 99);
        edge(SCREEN + "carry a 0 ", " 0;", 0, 7);
        edge(SCREEN + "carry a 0 0 ", ";", 0, 7);
        edge("room 1 1;" + SCREEN + "carry a 0 ", " 0;", 0, 7);
        edge("room 1 1;" + SCREEN + "carry a 0 0 ", ";", 0, 7);
        about = "carry, at most 10";
        String ten = SCREEN + repeated("carry a 0 0 0;", 10);
        told(ten);
        told(FOLK + ten + "step a 0 0;");
        faulty(ten + "carry a 0 0 0;", 2, ten.length());
        faulty(ten + "carry b 0 0 0;", 2, ten.length());
        faulty(ten + "carry", 2, ten.length());
        about = "step: at an HOUR 0 .. 99 a WAY 0 .. 3";
        edge(FOLK + "step a ", " 0;", 0, 99);
        edge(FOLK + "step a 0 ", ";", 0, 3);
        about = "step, at most 12";
        String twelve = FOLK + repeated("step a 0 0;", 12);
        told(twelve);
        faulty(twelve + "step a 0 0;", 2, twelve.length());
        faulty(twelve + "step b 0 0;", 2, twelve.length());
        faulty(twelve + "step", 2, twelve.length());
        about = "moth: of a hundred 0 .. 100";
        edge("moth ", ";", 0, 100);
        about = "seed: 0 .. 99999";
        edge("seed ", ";", 0, 99999);
        about = "all that may be told in one TEXT";
        String full = "room 8 8;screen a 0 0 0 4 0;screen b 1 1 0 4 0;screen c 2 2 0 4 0;screen d 3 3 0 4 0;screen e 0 4 0 4 0;"
            + "folk a 1 0 0 0;folk b 1 0 0 0;folk c 1 0 0 0;folk d 1 0 0 0;folk e 1 0 0 0;folk f 1 0 0 0;"
            + repeated("carry e 9 7 4;", 10) + repeated("step f 9 0;", 12) + "moth 100;seed 99999;law pay 1;law cut 1;law ageing 1;";
        ScreenRoom all = told(full);
        due("screens", all.count(0), 5);
        due("folk", all.count(1), 6);
        due("knots", all.count(4), 3);
        due("leaves", all.count(6), 20);
        all.go(10);
        due("the tenth carry is carried, twelve steps up are refused", all.count(7), 12);
        due("carried", all.screen(4, 1), 7);
    }

    private static void defaults() {
        about = "moth (0), seed (0) without";
        ScreenRoom none = told(SCREEN);
        due("1 of 1", none.holds(0, 6, 0), none.holds(0, 6, 1));
        none.go(99);
        due("never cut", none.count(6), 1);
        // From 0 on the first number is 12345 by 65536: 0, below 1; the next are 1406932606 and 654583775: 21468 and 9988.
        String ones = "screen a 0 0 0 4 0;law cut 1+68*(hour>10);";
        int[] wholes = {3, 2, 2};
        for (String seed : new String[] {"", "seed 0;"}) {
            ScreenRoom room = told(ones + seed);
            for (int tenth = 0; tenth < 3; tenth++) {
                room.go(10);
                due("behind the tenth hour " + tenth, room.count(6), wholes[tenth]);
            }
        }
    }

    /** What a text before, sound or faulty, told is nothing to the next one. */
    private static void nothingStays() {
        about = "another TEXT";
        String much = "room 1 8;moth 100;seed 77;screen a 3 0 0 4 0;folk a 9 0 7 3;carry a 0 0 1;step a 0 3;"
            + "law pay (1<2)+(3);law cut 100;law ageing not 1;";
        String little = "screen a 0 0 0 2 0;folk x 0 3 3 0;";
        String[] faults = {"", ";", "moth 1;", "seed 1;", "law pay 1;", "law pay ((1<2", "room 1 1;", "screen a", "step b"};
        for (String fault : faults) {
            ScreenRoom room = told(little);
            for (int k = 0; k < 3; k++) {
                due("much", tell(room, much), 10);
                if (!fault.isEmpty()) due("much and " + fault, tell(room, much + fault), -1);
                due("much again", tell(room, much), 10);
                due("its knots", room.count(4), 8);
                due("its law", room.law(1, 0), 4);
                if (!fault.isEmpty()) due("much and " + fault, tell(room, much + fault), -1);
                due("little", tell(room, little), 2);
                due("little again", tell(room, little), 2);
            }
            due("rows and columns", room.count(2) * 10 + room.count(3), 44);
            due("no knots", room.count(4), 0);
            due("no law", room.law(1, 0), Long.MIN_VALUE);
            due("no moth", room.holds(0, 6, 1), 1);
            due("nobody of that name", room.named(1, letters("a")), -1);
            due("nothing refused ahead", room.ahead(99, 2, 0), 0);
            room.go(20);
            due("none cut", room.screen(0, 5), 3);
            due("nothing carried", room.screen(0, 2), 0);
            due("nobody stepped", room.folk(0, 2), 3);
            due("paid by 1", room.folk(0, 4), 20);
        }
        about = "another TEXT behind a law that is cut off";
        String[] laws = {"law pay ((1<2", "law pay 1<2<", "law pay not(1+", "law pay " + repeated("(", 8), "law pay 1 or 1 and not 1+2*"};
        for (String law : laws) {
            ScreenRoom room = new ScreenRoom();
            for (int k = 0; k < 2; k++) {
                due(law, tell(room, law), -1);
                due("a comparison", tell(room, FOLK + "law pay 1<2;"), 2);
                due("its law", room.law(1, 0), 1);
                due(law, tell(room, law), -1);
                due("eight brackets", tell(room, FOLK + "law pay " + repeated("(", 8) + "7" + repeated(")", 8) + ";"), 2);
                due("its law", room.law(1, 0), 7);
                due("its knots", room.count(4), 1);
            }
        }
        about = "another TEXT: seed (0) without";
        // From 0 on the first number is 0, from 77 on it isn't.
        String drawn = SCREEN + "law cut 1;";
        ScreenRoom room = told(drawn);
        for (int k = 0; k < 3; k++) {
            due("seed", tell(room, "seed 77;" + drawn), 3);
            room.go(10);
            due("from 77 on", room.count(6), 1);
            for (int again = 0; again < 2; again++) {
                due("no seed", tell(room, drawn), 2);
                room.go(10);
                due("from 0 on", room.count(6), 0);
            }
        }
        about = "KNOTS of many TEXTS";
        for (int k = 0; k < 6; k++) {
            due("64 knots", tell(room, SCREEN + FOLK + "law pay not 1" + repeated("+1", 31) + ";"), 3);
            due("64 knots", room.count(4), 64);
            due("their law", room.law(1, 0), 0);
        }
    }

    private static void firstFault() {
        about = "FAULTS, the first along the text";
        faulty("moth 101;seed 100000;", 2, 5);
        faulty("moth 100;seed 100000;", 2, 14);
        faulty("moth 1;moth 1;!", 3, 7);
        faulty("moth 1;!moth 1;", 1, 7);
        faulty("carry a 100 0 0;", 4, 6);
        faulty(SCREEN + "carry a 100 9 9", 2, 27);
        faulty(SCREEN + "screen a 4 0 0 1 0;", 3, 26);
        faulty(SCREEN + "screen b 4 0 0 1 0;", 2, 28);
        faulty(SCREEN + "screen b 0 0 0 1 0;moth 101;", 5, 36);
        faulty("law pay 10000 10000;", 2, 8);
        faulty("law pay 1 10000;", 1, 10);
        faulty("room 9 9", 2, 5);
        faulty("room 8 9", 2, 7);
        faulty("room 8 8", 1, 8);
        about = "of one place the least";
        faulty("room 1 1;" + SCREEN + "room 1 1;", 1, 28);
        faulty("room 1 1;" + FOLK + "room 1 1;", 1, 24);
        faulty("screen law 0 0 0 1 0;", 1, 7);
    }

    private static void lengths() {
        about = "fault 1: the length, if more must come";
        String line = "law pay ( 1 + age ) ;";
        // A word that is cut off is another one, at its own place.
        int[] places = {0, 0, 3, 4, 4, 4, 7, 8, 9, 10, 11, 12, 13, 14, 14, 14, 17, 18, 19, 20};
        for (int n = 1; n < line.length(); n++) faultyFirst(line, n, places[n - 1]);
        ScreenRoom whole = new ScreenRoom();
        feed(whole, line);
        due("all of it", whole.text(line.length()), 1);
        faultyFirst("moth 12;", 6, 6);
        faultyFirst("moth 1;", 6, 6);
        faultyFirst("rooms", 4, 4);
        faulty("law pay 1<=", 1, 11);
        faulty("law pay 1<>", 1, 11);
        faulty("law pay 1>=", 1, 11);
        faulty("law pay 1<", 1, 10);
        faulty("room   ", 1, 7);
        faulty("room 4 \n", 1, 8);
        faulty("room 4 4  ", 1, 10);
        faulty("law pay 1 +   ", 1, 14);
        faulty("law   ", 1, 6);
        faulty(repeated(" ", 696) + "room", 1, 700);
        faulty(repeated(" ", 699) + ";", 1, 699);
        told(repeated(" ", 693) + "moth 1;");
        told("moth 1;" + repeated("\n", 693));
    }

    private static void brackets() {
        about = "fault 2: a ninth '(' open";
        told("law pay " + repeated("(", 8) + "1" + repeated(")", 8) + ";");
        faulty("law pay " + repeated("(", 9) + "1" + repeated(")", 9) + ";", 2, 16);
        faulty("law pay " + repeated("(", 9), 2, 16);
        faulty("law pay " + repeated("(", 8), 1, 16);
        told("law pay " + repeated("(", 7) + "(1)+(1)" + repeated(")", 7) + ";");
        faulty("law pay " + repeated("(", 7) + "(1)+((1))" + repeated(")", 7) + ";", 2, 20);
        told("law pay " + repeated("(1)+", 20) + "1;");
        told("law pay " + repeated("not(", 8) + "1" + repeated(")", 8) + ";law cut " + repeated("(", 8) + "1" + repeated(")", 8) + ";");
        about = "of one place the least: a ninth '(' that can't stand there";
        faulty("law pay " + repeated("(", 8) + "1(", 1, 17);
        faulty("law pay " + repeated("(", 8) + "1" + repeated(")", 9), 1, 25);
    }

    private static void knots() {
        about = "fault 2: a 65th KNOT of all E";
        // 64 knots: not, 1 and 31 times + and 1.
        String ended = "law pay not 1" + repeated("+1", 31);
        due("64", told(ended + ";").count(4), 64);
        String[] signs = {"+", "-", "*", "/", "<", "<=", "=", "<>", ">=", ">", " and", " or"};
        for (String sign : signs) {
            faulty(ended + sign + "1;", 2, ended.length() + (sign.charAt(0) == ' ' ? 1 : 0));
            // One less: the sign is the 64th, and what is behind it the 65th.
            String less = "law pay 1" + repeated("+1", 31) + sign + " ";
            faulty(less + "1;", 2, less.length());
            for (String name : NAMES) faulty(less + name + ";", 2, less.length());
            faulty(less + "(1);", 2, less.length() + 1);
            faulty(less + ";", 1, less.length());
        }
        String waiting = "law pay " + repeated("1 and ", 32);
        faulty(waiting + "not 1;", 2, waiting.length());
        faulty(waiting + "10000;", 2, waiting.length());
        faulty(waiting + "(", 1, waiting.length() + 1);
        String alternatives = "law pay not not 1" + repeated(" or 1", 30) + " or ";
        faulty(alternatives + "not 1;", 2, alternatives.length());
        about = "a bracket is no KNOT";
        due("64", told("law pay not 1" + repeated("+(1)", 31) + ";").count(4), 64);
        about = "KNOTS: one each";
        due("N", told("law pay 7;").count(4), 1);
        for (String name : NAMES) due(name, told("law pay " + name + ";").count(4), 1);
        for (String sign : signs) due(sign, told("law pay 1" + sign + " 1;").count(4), 3);
        due("not", told("law pay not 1;").count(4), 2);
        due("not not", told("law pay not not(1);").count(4), 3);
        about = "KNOTS of all E";
        String three = "law pay not 1" + repeated("+1", 10) + ";law cut 1" + repeated("+1", 10) + ";law ageing 1" + repeated("+1", 10);
        due("22 and 21 and 21", told(three + ";").count(4), 64);
        faulty(three + "+1;", 2, three.length());
        faulty(ended + ";law cut 1;", 2, ended.length() + 9);
        faulty(ended + ";law cut (1);", 2, ended.length() + 10);
        faulty(ended + ";law cut;", 1, ended.length() + 8);
        about = "of one place the least: a 65th KNOT that can't stand there";
        faulty(ended + " 1;", 1, ended.length() + 1);
        faulty(ended + " age;", 1, ended.length() + 1);
        faulty(ended + " not 1;", 1, ended.length() + 1);
        faulty(waiting + "+1;", 1, waiting.length());
        faulty(waiting + "and 1;", 1, waiting.length());
        about = "KNOTS of another TEXT begin anew";
        ScreenRoom again = told(ended + ";");
        due("lines", tell(again, ended + ";"), 1);
        due("64", again.count(4), 64);
        due("none", tell(again, ""), 0);
        due("0", again.count(4), 0);
    }

    private static void toldAlready() {
        about = "fault 3: told already";
        faulty("room 4 4;room 4 4;", 3, 9);
        faulty("moth 1;moth 1;", 3, 7);
        faulty("seed 1;moth 1;seed 1;", 3, 14);
        faulty("moth 0;moth 0;", 3, 7);
        faulty("seed 0;seed 0;", 3, 7);
        faulty("moth 1;moth", 3, 7);
        for (String rule : new String[] {"ageing", "pay", "cut"}) {
            String first = "law " + rule + " 0;law ";
            faulty(first + rule + " 1;", 3, first.length());
            faulty(first + rule, 3, first.length());
        }
        told("law ageing 0;law pay 0;law cut 0;");
        told("law cut 0;law pay 0;law ageing 0;");
        faulty(SCREEN + "screen a 0 1 1 1 0;", 3, 26);
        faulty(SCREEN + "screen b 0 1 1 1 0;screen a", 3, 45);
        faulty(FOLK + "folk a 0 0 0 0;", 3, 20);
        faulty("folk abcdef 0 0 0 0;folk abcdef", 3, 25);
        about = "names of their kind";
        told(SCREEN + FOLK + "carry a 0 0 0;step a 0 0;");
        told("screen ab 0 0 0 1 0;screen a 0 1 0 1 0;screen b 0 2 0 1 0;screen aba 0 3 0 1 0;folk ba 0 0 0 0;");
        about = "fault 3: what an other TEXT told is not told";
        ScreenRoom again = told("room 4 4;moth 1;seed 1;law pay 1;" + SCREEN + FOLK);
        due("the same once more", tell(again, "room 4 4;moth 1;seed 1;law pay 1;" + SCREEN + FOLK), 6);
        due("a faulty one", tell(again, "moth 1;seed 1;!"), -1);
        due("the same once more", tell(again, "room 4 4;moth 1;seed 1;law pay 1;" + SCREEN + FOLK), 6);
    }

    private static void notTold() {
        about = "fault 4: a SCREEN, one of FOLK that isn't told ahead";
        faulty("carry a 0 0 0;", 4, 6);
        faulty("step a 0 0;", 4, 5);
        faulty("carry a 0 0 0;" + SCREEN, 4, 6);
        faulty("step a 0 0;" + FOLK, 4, 5);
        faulty(FOLK + "carry a 0 0 0;", 4, 21);
        faulty(SCREEN + "step a 0 0;", 4, 24);
        faulty(SCREEN + "carry aa 0 0 0;", 4, 25);
        faulty("screen aa 0 0 0 1 0;carry a 0 0 0;", 4, 26);
        faulty(SCREEN + "carry b", 4, 25);
        faulty(SCREEN + "carry 0 0 0 0;", 1, 25);
        told(SCREEN + "carry a 0 0 0;");
        told(FOLK + "step a 0 0;");
        about = "fault 4: what an other TEXT told is not told";
        ScreenRoom again = told(SCREEN + FOLK);
        due("carry", tell(again, "carry a 0 0 0;"), -1);
        due("fault", again.fault(0), 4);
        due("step", tell(again, "step a 0 0;"), -1);
        due("fault", again.fault(0), 4);
    }

    public static void main(String[] args) {
        emptyText();
        fewNumbers();
        words();
        signs();
        comparisons();
        grammar();
        rooms();
        screens();
        fitting();
        folk();
        carriesAndSteps();
        defaults();
        nothingStays();
        firstFault();
        lengths();
        brackets();
        knots();
        toldAlready();
        notTold();
        end();
    }
}
