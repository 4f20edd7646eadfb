/**
 * A call that is refused, or only asks, leaves all as it was: each is made on one of two objects that were used alike, and from
 * then on both must answer alike: all that can be asked of now, the tape, what is undone, the numbers drawn, the image, a new text.
 */
public final class RefusedCallTests extends Due {
    private static final int MIN = Integer.MIN_VALUE;
    private static final int MAX = Integer.MAX_VALUE;
    private static final String TEXT = "room 3 4;screen a 0 0 0 2 0;screen b 2 1 3 2 1;folk x 10 1 0 0;folk y 20 2 2 2;"
        + "carry a 14 2 0;step x 13 1;step y 15 0;moth 60;seed 3;law pay 1+near;";

    private interface Call {
        long on(ScreenRoom room);
    }

    private interface Past {
        ScreenRoom made();
    }

    /** Hour 13, leaves cut and mended, an image of hour 10, four to undo, four seen, a fault told, 20 bytes on the tape. */
    private static ScreenRoom used() {
        ScreenRoom room = new ScreenRoom();
        tell(room, TEXT);
        room.go(10);
        room.keep();
        room.go(3);
        room.mend(1);
        room.step(0, 2);
        room.turn(0);
        room.carry(1, 0, 3);
        room.see(3, 0, 0, 0, true);
        room.see(12, 2, 3, 1, false);
        room.out(0);
        room.see(20, 1, 1, 2, true);
        room.known(3);
        tell(room, "moth 100;seed 1;room 8 9;");
        feed(room, "room 2 2;!!!!!!!!!!!");
        return room;
    }

    /** Seen, the tape and what can be undone are full; it is the last hour. */
    private static ScreenRoom full() {
        ScreenRoom room = new ScreenRoom();
        tell(room, TEXT);
        for (int k = 0; k < 50; k++) room.go(99);
        room.keep();
        for (int k = 0; k < 50; k++) room.go(99);
        for (int k = 0; k < 24; k++) room.see(1 + k, 0, 0, 1, false);
        room.carry(0, 0, 0);
        for (int k = 0; k < 22; k++) room.turn(0);
        for (int k = 0; k < 35; k++) room.feed(0x726f6f6d, 0x20322032, 0x3b212121, 0x21212121, 0x21212121);
        return room;
    }

    private static String now(ScreenRoom room) {
        StringBuilder all = new StringBuilder();
        for (int what = 0; what < 15; what++) all.append(room.count(what)).append(' ');
        all.append("| ");
        for (int folk = 0; folk < room.count(1); folk++) {
            for (int what = 0; what < 6; what++) all.append(room.folk(folk, what)).append(' ');
        }
        all.append("| ");
        for (int screen = 0; screen < room.count(0); screen++) {
            for (int what = 0; what < 6; what++) all.append(room.screen(screen, what)).append(' ');
            all.append(room.painted(screen)).append(' ');
        }
        all.append("| ");
        for (int cell = 0; cell < 12; cell++) all.append(room.season(cell / 4, cell % 4)).append(room.leaf(cell / 4, cell % 4)).append(' ');
        return all.append("| ").append(room.fault(0)).append(' ').append(room.fault(1)).append(' ').append(room.law(1, 0)).toString();
    }

    /** What an object answers from now on, to all that could tell a change. */
    private static String fromNowOn(ScreenRoom room) {
        StringBuilder all = new StringBuilder(now(room));
        all.append("\n  fed ").append(room.feed(0x20202020, 0x20202020, 0x20202020, 0x20202020, 0x20202020));
        for (int k = 0; k < 6; k++) all.append("\n  undone ").append(room.undo());
        all.append('\n').append(now(room));
        all.append("\n  gone ").append(room.go(17)).append(' ').append(room.ahead(33, 3, 0)).append('\n').append(now(room));
        all.append("\n  back ").append(room.back()).append('\n').append(now(room));
        all.append("\n  gone ").append(room.go(30)).append(' ').append(room.count(6)).append(' ').append(room.count(8));
        all.append("\n  known ").append(room.known(-1)).append(' ').append(room.painted(0)).append(' ').append(room.painted(1));
        return all.append("\n  text ").append(room.text(9)).append(' ').append(room.count(2)).append(' ').append(room.count(0)).toString();
    }

    private static void refused(String name, Past past, Call call, long want) {
        ScreenRoom asked = past.made();
        due(name, call.on(asked), want);
        due(name, fromNowOn(asked), fromNowOn(past.made()));
    }

    private static void refused(String name, Call call, long want) {
        refused(name, RefusedCallTests::used, call, want);
    }

    /** What only asks: whatever it answers, twice the same. */
    private static void asks(String name, Call call) {
        ScreenRoom asked = used();
        long first = call.on(asked);
        due(name + " again", call.on(asked), first);
        due(name, fromNowOn(asked), fromNowOn(used()));
    }

    private static long one(boolean answer) {
        return answer ? 1 : 0;
    }

    /** So that the twins' answers have something to tell. */
    private static void pasts() {
        about = "the past";
        ScreenRoom room = used();
        due("hour", room.count(5), 13);
        due("undo", room.count(14), 4);
        due("seen", room.count(12), 4);
        due("known", room.count(13), 3);
        due("fault", room.fault(0), 2);
        due("place", room.fault(1), 23);
        due("some are cut", room.count(6) < 4, true);
        due("some are whole", room.count(6) > 0, true);
        ScreenRoom last = full();
        due("hour", last.count(5), 9900);
        due("undo", last.count(14), 20);
        due("seen", last.count(12), 24);
    }

    private static void tapeAndText() {
        about = "2, 3 refused";
        for (int n : new int[] {MIN, -1, 21, 40, 700, MAX}) refused("text " + n, x -> x.text(n), -2);
        refused("feed a full tape", RefusedCallTests::full, x -> x.feed(0x20202020, 0, -1, MAX, MIN), -1);
        refused("text of a full tape", RefusedCallTests::full, x -> x.text(701), -2);
        about = "3: NONE with a FAULT, all stays";
        String[] texts = {"room 1 1;;", "room 1 1;moth 101;", "room 1 1;moth 1;moth 1;", "room 1 1;seed 9;carry a 0 0 0;",
            "room 1 1;screen c 0 0 0 2 0;", "law pay 9;law cut 100;law ageing 9", "screen a 3 3 3 1 0;folk x 1 1 1 1;step a 0 0;"};
        for (String text : texts) {
            refused(text, x -> faultyBetween(x, text), 0);
        }
    }

    /** Tells a faulty text, and then brings the tape and the fault back to what they were. */
    private static long faultyBetween(ScreenRoom room, String text) {
        room.text(20);
        feed(room, text);
        int answer = room.text(text.length());
        tell(room, "moth 100;seed 1;room 8 9;");
        feed(room, "room 2 2;!!!!!!!!!!!");
        return answer + 1;
    }

    private static void looking() {
        about = "4 to 10 refused";
        for (int no : new int[] {MIN, -1, 2, MAX}) {
            refused("fault " + no, x -> x.fault(no), -1);
            refused("named " + no, x -> x.named(no, 1 << 25), -1);
            refused("named letters " + no, x -> x.named(0, no), -1);
            refused("folk " + no, x -> thrown(x, no, 0), 1);
            refused("screen " + no, x -> x.screen(no, 0), -1);
            refused("law 0 of " + no, x -> x.law(0, no), Long.MIN_VALUE);
            refused("law 1 of " + no, x -> x.law(1, no), Long.MIN_VALUE);
            refused("law 2 of " + no, x -> x.law(2, no), Long.MIN_VALUE);
        }
        for (int no : new int[] {MIN, -1, 6, MAX}) {
            refused("folk what " + no, x -> thrown(x, 0, no), 2);
            refused("screen what " + no, x -> x.screen(0, no), -1);
            refused("law what " + no, x -> x.law(no, 0), Long.MIN_VALUE);
        }
        for (int no : new int[] {MIN, -1, 4, 8, MAX}) {
            refused("season row " + no, x -> x.season(no, 0), -1);
            refused("season column " + no, x -> x.season(0, no), -1);
            refused("leaf row " + no, x -> x.leaf(no, 0), -1);
            refused("leaf column " + no, x -> x.leaf(0, no), -1);
        }
    }

    private static void doing() {
        about = "11 to 15 refused";
        for (int no : new int[] {MIN, -1, 2, 5, MAX}) {
            refused("carry screen " + no, x -> one(x.carry(no, 0, 0)), 0);
            refused("turn screen " + no, x -> one(x.turn(no)), 0);
            refused("mend screen " + no, x -> x.mend(no), -1);
            refused("step folk " + no, x -> x.step(no, 0), -1);
        }
        for (int no : new int[] {MIN, -1, 4, MAX}) {
            refused("carry row " + no, x -> one(x.carry(0, no, 0)), 0);
            refused("carry column " + no, x -> one(x.carry(0, 0, no)), 0);
            refused("step way " + no, x -> x.step(0, no), -1);
        }
        refused("carried to where it is", x -> one(x.carry(0, 0, 0)), 0);
        refused("carried onto the other", x -> one(x.carry(0, 0, 3)), 0);
        refused("carried half out of the room", x -> one(x.carry(0, 2, 1)), 0);
        refused("turned out of the room", x -> one(x.turn(1)), 0);
        refused("none is cut", x -> x.mend(1), -2);
        refused("a step out of the room", x -> x.step(0, 2), -2);
        refused("a step out of the room", x -> x.step(0, 3), -2);
        for (int no : new int[] {MIN, -99, -1, 100, 101, MAX}) refused("go " + no, x -> x.go(no), -1);
        refused("behind 9900", RefusedCallTests::full, x -> x.go(1), -1);
        refused("behind 9900", RefusedCallTests::full, x -> x.go(99), -1);
        refused("no hour at 9900", RefusedCallTests::full, x -> x.go(0), 9900);
        refused("no hour", x -> x.go(0), 13);
        refused("no screens", RefusedCallTests::empty, x -> one(x.carry(0, 0, 0)) + one(x.turn(0)), 0);
        refused("nothing to undo", RefusedCallTests::empty, ScreenRoom::undo, -1);
        refused("no image", RefusedCallTests::empty, ScreenRoom::back, -1);
        refused("no image, but one to undo", RefusedCallTests::turned, ScreenRoom::back, -1);
    }

    private static ScreenRoom empty() {
        return new ScreenRoom();
    }

    private static ScreenRoom turned() {
        ScreenRoom room = new ScreenRoom();
        tell(room, TEXT);
        room.turn(0);
        return room;
    }

    private static void asking() {
        about = "16 to 27 refused";
        for (int no : new int[] {MIN, -1, 100, MAX}) {
            refused("ahead n " + no, x -> x.ahead(no, 3, 0), -1);
            refused("ahead what " + no, x -> x.ahead(9, no, 0), -1);
            refused("ahead i " + no, x -> x.ahead(9, 0, no) + x.ahead(9, 1, no) + x.ahead(9, 4, no), -3);
            refused("steps " + no, x -> x.steps(no, 0, 0) + x.steps(0, no, 0) + x.steps(0, 0, no), -3);
            refused("young " + no, x -> x.young(no, 0, 0) + x.young(0, no, 0) + x.young(0, 0, no), -3);
            refused("stand " + no, x -> x.stand(no, 0) + x.stand(0, no), -2);
            refused("of season " + no, x -> x.ofSeason(no), -1);
            refused("worth " + no, x -> x.worth(no), MIN);
            refused("rests " + no, x -> x.rests(no, 0) + x.rests(0, no), -2);
            refused("rest " + no, x -> x.rest(no, 0, 0) + x.rest(0, no, 0), -2);
            refused("holds " + no, x -> x.holds(no, 1, 0) + x.holds(0, no, 0) + x.holds(0, 1, no), -3);
            refused("meet " + no, x -> x.meet(no, 0, 0) + x.meet(0, no, 0) + x.meet(0, 1, no), -3);
            refused("next to " + no, x -> x.nextTo(no), -1);
        }
        refused("rests alike", x -> x.rests(1, 1) + x.rest(1, 1, 0), -2);
        refused("rest k", x -> x.rest(0, 1, -1) + x.rest(0, 1, MIN), -2);
        refused("rest no so many", x -> x.rest(0, 1, 4) + x.rest(0, 1, MAX), -4);
        refused("meet alike", x -> x.meet(1, 1, 0), -1);
        about = "28 to 36 refused";
        for (int no : new int[] {MIN, -1, 41, MAX}) {
            refused("see " + no, x -> x.see(no, 0, 0, 0, true) + x.see(1, no, 0, 0, true) + x.see(1, 0, no, 0, true) + x.see(1, 0, 0, no, true), -4);
            refused("out " + no, x -> x.out(no), -1);
            refused("painted " + no, x -> x.painted(no), -1);
            refused("tried what " + no, x -> x.tried(no, 0, 1), -1);
            refused("tried i " + no, x -> x.tried(0, no, 1) + x.tried(2, no, 1) + x.tried(5, no, 1), -3);
        }
        refused("out of itself", x -> x.out(4), -1);
        refused("see hours 0", x -> x.see(0, 0, 0, 0, true), -1);
        refused("a 25th seen", RefusedCallTests::full, x -> x.see(1, 0, 0, 0, true), -1);
        refused("a 25th out", RefusedCallTests::full, x -> x.out(0), -1);
        for (int no : new int[] {MIN, -2, 5, 25, MAX}) refused("known " + no, x -> one(x.known(no)), 0);
        for (int no : new int[] {MIN, -1, 100, MAX}) {
            refused("chance n " + no, x -> x.chance(0, no, 0), -1);
            refused("chance whole " + no, x -> x.chance(0, 1, no), -1);
            refused("tried n " + no, x -> x.tried(0, 0, no), -1);
        }
        refused("chance seed", x -> x.chance(-1, 1, 0) + x.chance(MIN, 1, 0), -2);
        refused("chance n 0", x -> x.chance(0, 0, 0), -1);
        for (int no : new int[] {MIN, -1, 15, MAX}) refused("count " + no, x -> x.count(no), -1);
    }

    private static void onlyAsked() {
        about = "what only asks";
        for (int what = 0; what < 5; what++) {
            int asked = what;
            for (int n : new int[] {0, 1, 50, 99}) asks("ahead " + n + " " + what, x -> x.ahead(n, asked, 1));
        }
        for (int what = 0; what < 6; what++) {
            int tried = what;
            asks("tried " + what, x -> x.tried(tried, 0, 99));
        }
        asks("tried 2, the other", x -> x.tried(2, 1, 99));
        for (int screen = 0; screen < 2; screen++) {
            int of = screen;
            for (int what = 0; what < 4; what++) {
                int asked = what;
                asks("stand " + screen, x -> x.stand(of, asked));
            }
            asks("worth", x -> x.worth(of));
            asks("painted", x -> x.painted(of));
            asks("rests", x -> x.rests(of, 1 - of));
            asks("rest", x -> x.rest(of, 1 - of, 0));
            asks("holds", x -> x.holds(of, 6, 0));
            asks("law", x -> x.law(1, of));
            asks("steps", x -> x.steps(of, 2, 1));
            asks("young", x -> x.young(of, 2, 1));
            asks("meet", x -> x.meet(of, 1 - of, 1));
            asks("next to", x -> x.nextTo(of));
        }
        asks("needed", ScreenRoom::needed);
        asks("of season", x -> x.ofSeason(2));
        asks("chance", x -> x.chance(77, 99, 1));
        asks("chance", x -> x.chance(MAX, 99, 1));
        asks("known as it is", x -> one(x.known(3)));
        asks("fault", x -> x.fault(1));
        asks("named", x -> x.named(0, 2 << 25));
    }

    public static void main(String[] args) {
        pasts();
        tapeAndText();
        looking();
        doing();
        asking();
        onlyAsked();
        end();
    }
}
