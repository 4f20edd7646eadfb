import java.util.NoSuchElementException;

/** A room of cells whose seasons are made by folding screens, told by a text and run by hours. */
public final class ScreenRoom {
    public static final int NONE = -1;

    private static final int NOT_SO = -2;
    private static final int LONGEST_TAPE = 700;
    private static final int FED_AT_ONCE = 20;
    private static final int LONGEST_SPAN = 99;
    private static final int LAST_HOUR = 9900;
    private static final int TIMES_DRAWN = 10;

    private final Parser parser = new Parser();
    private Text text = new Text();
    private final Room now = new Room();
    private final Room trial = new Room();
    private final Room image = new Room();
    private boolean imageKept = false;
    private final History history = new History();
    private final Sightings sightings = new Sightings();
    private final Ways ways = new Ways();
    private final Judge judge = new Judge();

    public ScreenRoom() {
        text.clear();
        text.start.screens.refresh();
        now.copyFrom(text.start);
    }

    public int feed(int a, int b, int c, int d, int e) {
        Reader tape = parser.reader;
        if (tape.fed + FED_AT_ONCE > LONGEST_TAPE) return NONE;
        tape.putBytes(a);
        tape.putBytes(b);
        tape.putBytes(c);
        tape.putBytes(d);
        tape.putBytes(e);
        return tape.fed;
    }

    public int text(int n) {
        if (n < 0 || n > parser.reader.fed) return NOT_SO;
        boolean sound = parser.parse(n);
        parser.reader.fed = 0;
        if (!sound) return NONE;
        text = parser.exchange(text);
        now.copyFrom(text.start);
        imageKept = false;
        history.clear();
        sightings.clear();
        return text.lines;
    }

    public int fault(int what) {
        if (what == 0) return parser.faultKind;
        if (what == 1) return parser.faultPlace;
        return NONE;
    }

    public int named(int what, int letters) {
        if (what == 0) return text.screenNamed(letters);
        if (what == 1) return text.folkNamed(letters);
        return NONE;
    }

    public int folk(int folk, int what) throws IndexOutOfBoundsException, NoSuchElementException {
        if (!now.isFolk(folk)) throw new IndexOutOfBoundsException("no such one of folk");
        switch (what) {
            case 0: return now.age[folk];
            case 1: return now.row[folk];
            case 2: return now.column[folk];
            case 3: return now.work[folk];
            case 4: return now.done[folk];
            case 5: return now.seasonOver(folk);
            default: throw new NoSuchElementException("no such what");
        }
    }

    public int screen(int screen, int what) {
        Screens screens = now.screens;
        if (!screens.isScreen(screen)) return NONE;
        switch (what) {
            case 0: return screens.season[screen];
            case 1: return screens.row[screen];
            case 2: return screens.column[screen];
            case 3: return screens.leaves[screen];
            case 4: return screens.down[screen];
            case 5: return screens.whole[screen];
            default: return NONE;
        }
    }

    public int season(int row, int column) {
        if (!now.screens.isCell(row, column)) return NONE;
        return now.screens.seasonAt[Screens.cellOf(row, column)];
    }

    public int leaf(int row, int column) {
        if (!now.screens.isCell(row, column)) return NONE;
        int there = now.screens.leafAt[Screens.cellOf(row, column)];
        return there < 0 ? NOT_SO : there;
    }

    public long law(int what, int which) {
        if (what == 2) return now.screens.isScreen(which) ? Hours.cutLaw(now, text, which) : Laws.ERROR;
        if (!now.isFolk(which)) return Laws.ERROR;
        if (what == 0) return Hours.ageingLaw(now, text, which, now.cellUnder(which), now.seasonOver(which));
        if (what == 1) return Hours.payLaw(now, text, which);
        return Laws.ERROR;
    }

    public boolean carry(int screen, int row, int column) {
        Screens screens = now.screens;
        if (!screens.isScreen(screen)) return false;
        if (screens.row[screen] == row && screens.column[screen] == column) return false;
        return placed(screen, row, column, screens.down[screen]);
    }

    public boolean turn(int screen) {
        Screens screens = now.screens;
        if (!screens.isScreen(screen)) return false;
        return placed(screen, screens.row[screen], screens.column[screen], 1 - screens.down[screen]);
    }

    private boolean placed(int screen, int row, int column, int down) {
        Screens screens = now.screens;
        if (!screens.fits(screen, row, column, down)) return false;
        history.addScreen(screens, screen);
        screens.place(screen, row, column, down);
        screens.refresh();
        return true;
    }

    public int mend(int screen) {
        Screens screens = now.screens;
        if (!screens.isScreen(screen)) return NONE;
        int cut = screens.firstCut(screen);
        if (cut < 0) return NOT_SO;
        history.addScreen(screens, screen);
        screens.whole[screen] |= 1 << cut;
        screens.refresh();
        return Integer.bitCount(screens.whole[screen]);
    }

    public int step(int folk, int way) {
        if (!now.isFolk(folk) || way < 0 || way > 3) return NONE;
        int cell = now.screens.beyond(now.row[folk], now.column[folk], way);
        if (cell < 0) return NOT_SO;
        history.addFolk(now, folk);
        Hours.enter(now, text, folk, cell);
        return now.age[folk];
    }

    public int go(int n) {
        if (!isSpan(n) || now.hour + n > LAST_HOUR) return NONE;
        Hours.pass(now, text, n, Hours.DRAWN);
        if (n > 0) history.clear();
        return now.hour;
    }

    private static boolean isSpan(int n) {
        return n >= 0 && n <= LONGEST_SPAN;
    }

    public int ahead(int n, int what, int i) {
        if (!isSpan(n) || !isAskedAhead(what, i)) return NONE;
        trial.copyFrom(now);
        Hours.pass(trial, text, n, Hours.AS_IT_GOES);
        switch (what) {
            case 0: return trial.age[i];
            case 1: return trial.done[i];
            case 2: return trial.refused - now.refused;
            case 3: return trial.screens.wholeLeaves;
            default: return trial.screens.cellsOf(i);
        }
    }

    private boolean isAskedAhead(int what, int i) {
        switch (what) {
            case 0:
            case 1: return now.isFolk(i);
            case 2:
            case 3: return true;
            case 4: return Screens.isAnySeason(i);
            default: return false;
        }
    }

    public int steps(int folk, int row, int column) {
        if (!now.isFolk(folk) || !now.screens.isCell(row, column)) return NONE;
        ways.walk(now.screens, now.cellUnder(folk), ways.first);
        return wayTo(row, column);
    }

    public int young(int folk, int row, int column) {
        if (!now.isFolk(folk) || !now.screens.isCell(row, column)) return NONE;
        ways.walkYoung(now.screens, now.cellUnder(folk), ways.first);
        return wayTo(row, column);
    }

    private int wayTo(int row, int column) {
        int length = ways.first[Screens.cellOf(row, column)];
        return length >= Ways.NO_WAY ? NOT_SO : length;
    }

    public int stand(int screen, int what) {
        if (!now.screens.isScreen(screen) || what < 0 || what > 3) return NONE;
        judge.findStand(now, screen);
        switch (what) {
            case 0: return judge.standRow;
            case 1: return judge.standColumn;
            case 2: return judge.standDown;
            default: return judge.standMany;
        }
    }

    public int ofSeason(int season) {
        return Screens.isAnySeason(season) ? now.screens.cellsOf(season) : NONE;
    }

    public int worth(int screen) {
        if (!now.screens.isScreen(screen)) return Integer.MIN_VALUE;
        judge.listWorkers(now);
        return judge.worthOf(screen, now.screens.count);
    }

    public int rests(int one, int other) {
        if (!areTwoScreens(one, other)) return NONE;
        trial.copyFrom(now);
        return Integer.bitCount(judge.restBits(trial.screens, one, other));
    }

    public int rest(int one, int other, int k) {
        if (!areTwoScreens(one, other) || k < 0) return NONE;
        trial.copyFrom(now);
        int bits = judge.restBits(trial.screens, one, other);
        int found = 0;
        for (int pair = 0; pair < 4; pair++) {
            if (((bits >> pair) & 1) == 1) {
                if (found == k) return 10 * (pair / 2) + pair % 2;
                found++;
            }
        }
        return NOT_SO;
    }

    private boolean areTwoScreens(int one, int other) {
        return one != other && now.screens.isScreen(one) && now.screens.isScreen(other);
    }

    public long holds(int screen, int n, int what) {
        if (!now.screens.isScreen(screen) || n < 0 || n > 6 || what < 0 || what > 1) return NONE;
        long above = 1;
        long below = 1;
        if (now.screens.whole[screen] != 0) {
            for (int k = 0; k < n; k++) {
                above *= 100 - text.moth;
                below *= 100;
            }
        }
        long shared = Judge.sharedDivisor(above, below);
        if (shared < 1) return NONE;
        return what == 0 ? above / shared : below / shared;
    }

    public int meet(int one, int other, int what) {
        if (one == other || !now.isFolk(one) || !now.isFolk(other) || what < 0 || what > 1) return NONE;
        ways.walk(now.screens, now.cellUnder(one), ways.first);
        ways.walk(now.screens, now.cellUnder(other), ways.second);
        int cell = ways.meetingCell(now.screens);
        if (cell < 0) return NOT_SO;
        if (what == 0) return ways.first[cell] + ways.second[cell];
        return 10 * Screens.rowOf(cell) + Screens.columnOf(cell);
    }

    public int needed() {
        judge.listWorkers(now);
        return judge.fewestScreens(now.screens.count);
    }

    public int nextTo(int folk) {
        if (!now.isFolk(folk)) return NONE;
        int bits = 0;
        for (int k = 0; k < now.folkCount; k++) {
            int apart = Math.abs(now.row[k] - now.row[folk]) + Math.abs(now.column[k] - now.column[folk]);
            if (k != folk && apart <= 1) bits |= 1 << k;
        }
        return bits;
    }

    public int see(int hours, int row, int column, int season, boolean is) {
        if (hours < 1 || hours > Sightings.LAST_HOUR_SEEN || !Screens.isAnySeason(season)) return NONE;
        if (!now.screens.isCell(row, column)) return NONE;
        return sightings.addSight(hours, Screens.cellOf(row, column), season, is);
    }

    public int out(int seen) {
        return sightings.addStrike(seen);
    }

    public boolean known(int n) {
        if (n < -1 || n > sightings.count) return false;
        sightings.knownBy = n;
        return true;
    }

    public int painted(int screen) {
        if (!now.screens.isScreen(screen)) return NONE;
        sightings.strikeAll();
        int last = sightings.lastHourKnown();
        int bits = 0;
        for (int season = 0; season < Screens.NO_SEASON; season++) {
            trial.copyFrom(text.start);
            trial.screens.season[screen] = season;
            trial.screens.refresh();
            boolean alike = true;
            for (int hour = 1; hour <= last && alike; hour++) {
                Hours.pass(trial, text, 1, Hours.AS_IT_GOES | Hours.NO_FOLK);
                alike = sightings.agree(trial.screens, hour);
            }
            if (alike) bits |= 1 << season;
        }
        return bits;
    }

    public int chance(int seed, int n, int whole) {
        if (seed < 0 || n < 1 || n > LONGEST_SPAN || whole < 0 || whole > 20) return NONE;
        long number = seed;
        int times = 0;
        for (int k = 0; k < TIMES_DRAWN; k++) {
            trial.copyFrom(now);
            trial.number = number;
            // Where a screen stands is nothing to the moths.
            Hours.pass(trial, text, n, Hours.DRAWN | Hours.NO_CARRYING | Hours.NO_FOLK);
            number = trial.number;
            if (trial.screens.wholeLeaves >= whole) times++;
        }
        return times;
    }

    public int tried(int what, int i, int n) {
        if (what < 0 || what > 5 || !isSpan(n)) return NONE;
        if (what == 2 ? !now.screens.isScreen(i) : i != 0) return NONE;
        trial.copyFrom(now);
        int how = Hours.AS_IT_GOES;
        switch (what) {
            case 1: how |= Hours.NO_MOTHS; break;
            case 2: trial.screens.present &= ~(1 << i); break;
            case 3: how |= Hours.NO_CARRYING; break;
            case 4: how |= Hours.NO_STEPS; break;
            case 5: trial.screens.makeAllWhole(); break;
            default: break;
        }
        trial.screens.refresh();
        Hours.pass(trial, text, n, how);
        return trial.doneByAll() - now.doneByAll();
    }

    public int undo() {
        if (history.count == 0) return NONE;
        history.takeBack(now);
        now.screens.refresh();
        return history.count;
    }

    public int keep() {
        image.copyFrom(now);
        imageKept = true;
        return now.hour;
    }

    public int back() {
        if (!imageKept) return NONE;
        now.copyFrom(image);
        history.clear();
        return now.hour;
    }

    public int count(int what) {
        switch (what) {
            case 0: return now.screens.count;
            case 1: return now.folkCount;
            case 2: return now.screens.rows;
            case 3: return now.screens.columns;
            case 4: return text.laws.knots;
            case 5: return now.hour;
            case 6: return now.screens.wholeLeaves;
            case 7: return now.refused;
            case 8: return now.doneByAll();
            case 9: return now.ageOfAll();
            case 10: return now.screens.freeCells();
            case 11: return now.atWork();
            case 12: return sightings.count;
            case 13: return sightings.byHowMany();
            case 14: return history.count;
            default: return NONE;
        }
    }

    /** The screens of a room and, kept beside them, what each cell has of them. */
    private static final class Screens {
        static final int MOST = 5;
        static final int NO_SEASON = 4;
        static final int SIDE = 8;
        static final int CELLS = 64;
        static final int FAR_OFF = 1000;
        private static final int[] ROWS_ON = {-1, 0, 1, 0};
        private static final int[] COLUMNS_ON = {0, 1, 0, -1};

        int rows;
        int columns;
        int count;
        // Bits of the screens that are there: one may be thought away.
        int present;
        int wholeLeaves;
        final int[] season = new int[MOST];
        final int[] row = new int[MOST];
        final int[] column = new int[MOST];
        final int[] leaves = new int[MOST];
        final int[] down = new int[MOST];
        final int[] whole = new int[MOST];
        // Asked far more often than screens change, so worked out once by refresh().
        final int[] seasonAt = new int[CELLS];
        final int[] farAt = new int[CELLS];
        final int[] leafAt = new int[CELLS];

        static int cellOf(int row, int column) {
            return row * SIDE + column;
        }

        static int rowOf(int cell) {
            return cell / SIDE;
        }

        static int columnOf(int cell) {
            return cell % SIDE;
        }

        static boolean isAnySeason(int season) {
            return season >= 0 && season <= NO_SEASON;
        }

        void empty(int rowsTold, int columnsTold) {
            rows = rowsTold;
            columns = columnsTold;
            count = 0;
            present = 0;
        }

        void copyFrom(Screens other) {
            rows = other.rows;
            columns = other.columns;
            count = other.count;
            present = other.present;
            wholeLeaves = other.wholeLeaves;
            System.arraycopy(other.season, 0, season, 0, MOST);
            System.arraycopy(other.row, 0, row, 0, MOST);
            System.arraycopy(other.column, 0, column, 0, MOST);
            System.arraycopy(other.leaves, 0, leaves, 0, MOST);
            System.arraycopy(other.down, 0, down, 0, MOST);
            System.arraycopy(other.whole, 0, whole, 0, MOST);
            System.arraycopy(other.seasonAt, 0, seasonAt, 0, CELLS);
            System.arraycopy(other.farAt, 0, farAt, 0, CELLS);
            System.arraycopy(other.leafAt, 0, leafAt, 0, CELLS);
        }

        boolean isScreen(int screen) {
            return screen >= 0 && screen < count;
        }

        boolean isCell(int atRow, int atColumn) {
            return atRow >= 0 && atRow < rows && atColumn >= 0 && atColumn < columns;
        }

        boolean isThere(int screen) {
            return ((present >> screen) & 1) == 1;
        }

        void place(int screen, int toRow, int toColumn, int toDown) {
            row[screen] = toRow;
            column[screen] = toColumn;
            down[screen] = toDown;
        }

        boolean isInRoom(int screen, int toRow, int toColumn, int toDown) {
            if (!isCell(toRow, toColumn)) return false;
            int further = leaves[screen] - 1;
            return toDown == 1 ? toRow + further < rows : toColumn + further < columns;
        }

        /** All its leaves, cut ones too, in the room and in no cell of another's leaf, cut ones too. */
        boolean fits(int screen, int toRow, int toColumn, int toDown) {
            if (!isInRoom(screen, toRow, toColumn, toDown)) return false;
            for (int leaf = 0; leaf < leaves[screen]; leaf++) {
                int atRow = toDown == 1 ? toRow + leaf : toRow;
                int atColumn = toDown == 1 ? toColumn : toColumn + leaf;
                for (int other = 0; other < count; other++) {
                    if (other != screen && isThere(other) && covers(other, atRow, atColumn)) return false;
                }
            }
            return true;
        }

        private boolean covers(int screen, int atRow, int atColumn) {
            int rowsOn = atRow - row[screen];
            int columnsOn = atColumn - column[screen];
            int along = down[screen] == 1 ? rowsOn : columnsOn;
            int aside = down[screen] == 1 ? columnsOn : rowsOn;
            return aside == 0 && along >= 0 && along < leaves[screen];
        }

        /** How far a cell is from a screen's whole leaves; FAR_OFF if it has none. */
        int farFrom(int screen, int atRow, int atColumn) {
            int least = FAR_OFF;
            for (int leaf = 0; leaf < leaves[screen]; leaf++) {
                if (((whole[screen] >> leaf) & 1) == 1) {
                    int rowsApart = atRow - row[screen];
                    int columnsApart = atColumn - column[screen];
                    if (down[screen] == 1) rowsApart -= leaf;
                    else columnsApart -= leaf;
                    int far = (rowsApart < 0 ? -rowsApart : rowsApart) + (columnsApart < 0 ? -columnsApart : columnsApart);
                    if (far < least) least = far;
                }
            }
            return least;
        }

        /** Of the screens in the bits that which makes the season of a cell; NONE if there is none. */
        int nearestOf(int bits, int atRow, int atColumn) {
            int nearest = NONE;
            int least = FAR_OFF;
            for (int screen = 0; screen < count; screen++) {
                if (((bits >> screen) & 1) == 1) {
                    int far = farFrom(screen, atRow, atColumn);
                    if (far < least) {
                        least = far;
                        nearest = screen;
                    }
                }
            }
            return nearest;
        }

        /** To be called behind every change of the screens. */
        void refresh() {
            wholeLeaves = 0;
            for (int screen = 0; screen < count; screen++) {
                if (isThere(screen)) wholeLeaves += Integer.bitCount(whole[screen]);
            }
            for (int atRow = 0; atRow < rows; atRow++) {
                for (int atColumn = 0; atColumn < columns; atColumn++) {
                    int nearest = nearestOf(present, atRow, atColumn);
                    int far = nearest < 0 ? 0 : farFrom(nearest, atRow, atColumn);
                    int cell = cellOf(atRow, atColumn);
                    seasonAt[cell] = nearest < 0 ? NO_SEASON : season[nearest];
                    farAt[cell] = far;
                    leafAt[cell] = far == 0 ? nearest : NONE;
                }
            }
        }

        /** The next cell that way; NONE if it is out of the room or a whole leaf is in it. */
        int beyond(int atRow, int atColumn, int way) {
            if (way < 0 || way > 3) return NONE;
            int toRow = atRow + ROWS_ON[way];
            int toColumn = atColumn + COLUMNS_ON[way];
            if (!isCell(toRow, toColumn)) return NONE;
            int cell = cellOf(toRow, toColumn);
            return leafAt[cell] < 0 ? cell : NONE;
        }

        int firstCut(int screen) {
            for (int leaf = 0; leaf < leaves[screen]; leaf++) {
                if (((whole[screen] >> leaf) & 1) == 0) return leaf;
            }
            return NONE;
        }

        void cutFirstWhole(int screen) {
            whole[screen] &= whole[screen] - 1;
        }

        void makeAllWhole() {
            for (int screen = 0; screen < count; screen++) {
                whole[screen] = (1 << leaves[screen]) - 1;
            }
        }

        int cellsOf(int wanted) {
            int cells = 0;
            for (int atRow = 0; atRow < rows; atRow++) {
                for (int atColumn = 0; atColumn < columns; atColumn++) {
                    if (seasonAt[cellOf(atRow, atColumn)] == wanted) cells++;
                }
            }
            return cells;
        }

        int freeCells() {
            int cells = 0;
            for (int atRow = 0; atRow < rows; atRow++) {
                for (int atColumn = 0; atColumn < columns; atColumn++) {
                    if (leafAt[cellOf(atRow, atColumn)] < 0) cells++;
                }
            }
            return cells;
        }
    }

    /** All that hours change: the screens, the folk, the hour, what was refused, the last number drawn. */
    private static final class Room {
        static final int MOST_FOLK = 6;

        final Screens screens = new Screens();
        int folkCount;
        final int[] age = new int[MOST_FOLK];
        final int[] row = new int[MOST_FOLK];
        final int[] column = new int[MOST_FOLK];
        final int[] work = new int[MOST_FOLK];
        final int[] done = new int[MOST_FOLK];
        int hour;
        int refused;
        long number;

        void empty() {
            screens.empty(4, 4);
            folkCount = 0;
            hour = 0;
            refused = 0;
            number = 0;
        }

        void copyFrom(Room other) {
            screens.copyFrom(other.screens);
            folkCount = other.folkCount;
            System.arraycopy(other.age, 0, age, 0, MOST_FOLK);
            System.arraycopy(other.row, 0, row, 0, MOST_FOLK);
            System.arraycopy(other.column, 0, column, 0, MOST_FOLK);
            System.arraycopy(other.work, 0, work, 0, MOST_FOLK);
            System.arraycopy(other.done, 0, done, 0, MOST_FOLK);
            hour = other.hour;
            refused = other.refused;
            number = other.number;
        }

        boolean isFolk(int one) {
            return one >= 0 && one < folkCount;
        }

        int cellUnder(int one) {
            return Screens.cellOf(row[one], column[one]);
        }

        int seasonOver(int one) {
            return screens.seasonAt[cellUnder(one)];
        }

        int doneByAll() {
            int sum = 0;
            for (int one = 0; one < folkCount; one++) sum += done[one];
            return sum;
        }

        int ageOfAll() {
            int sum = 0;
            for (int one = 0; one < folkCount; one++) sum += age[one];
            return sum;
        }

        int atWork() {
            int working = 0;
            for (int one = 0; one < folkCount; one++) {
                if (seasonOver(one) == work[one]) working++;
            }
            return working;
        }

        int drawNumber() {
            number = (number * 1103515245L + 12345L) & 0x7fffffffL;
            return (int) (number / 65536L);
        }
    }

    /** What an hour does to a room, by a text. */
    private static final class Hours {
        // Bits of how hours pass; without DRAWN it is as it goes.
        static final int AS_IT_GOES = 0;
        static final int DRAWN = 1;
        static final int NO_MOTHS = 2;
        static final int NO_CARRYING = 4;
        static final int NO_STEPS = 8;
        // For what is asked of screens alone: neither steps nor work change them.
        static final int NO_FOLK = 16;
        private static final int OLDEST = 999;
        private static final int MOST_DONE = 9999;

        static void pass(Room room, Text text, int n, int how) {
            for (int k = 0; k < n; k++) {
                if ((how & NO_CARRYING) == 0) carryAll(room, text);
                if ((how & (NO_STEPS | NO_FOLK)) == 0) stepAll(room, text);
                if ((how & NO_FOLK) == 0) payAll(room, text);
                if ((how & NO_MOTHS) == 0 && room.hour % 10 == 9) mothsCome(room, text, (how & DRAWN) != 0);
                room.hour++;
            }
        }

        private static void carryAll(Room room, Text text) {
            Screens screens = room.screens;
            boolean changed = false;
            for (int k = 0; k < text.carries; k++) {
                int screen = text.carryScreen[k];
                if (text.carryHour[k] == room.hour && screens.isThere(screen)) {
                    int down = screens.down[screen];
                    if (screens.fits(screen, text.carryRow[k], text.carryColumn[k], down)) {
                        screens.place(screen, text.carryRow[k], text.carryColumn[k], down);
                        changed = true;
                    } else {
                        room.refused++;
                    }
                }
            }
            if (changed) screens.refresh();
        }

        private static void stepAll(Room room, Text text) {
            for (int k = 0; k < text.steps; k++) {
                if (text.stepHour[k] == room.hour) {
                    int one = text.stepFolk[k];
                    int cell = room.screens.beyond(room.row[one], room.column[one], text.stepWay[k]);
                    if (cell < 0) room.refused++;
                    else enter(room, text, one, cell);
                }
            }
        }

        static void enter(Room room, Text text, int one, int cell) {
            int from = room.seasonOver(one);
            int to = room.screens.seasonAt[cell];
            if (to != from) {
                long law = ageingLaw(room, text, one, cell, from);
                long more = law == Laws.ERROR ? (to - from) & 3 : within(law, 9);
                room.age[one] = (int) Math.min(OLDEST, room.age[one] + more);
            }
            room.row[one] = Screens.rowOf(cell);
            room.column[one] = Screens.columnOf(cell);
        }

        private static void payAll(Room room, Text text) {
            for (int one = 0; one < room.folkCount; one++) {
                if (room.seasonOver(one) == room.work[one]) {
                    long law = payLaw(room, text, one);
                    long more = law == Laws.ERROR ? 1 : within(law, 99);
                    room.done[one] = (int) Math.min(MOST_DONE, room.done[one] + more);
                }
            }
        }

        private static void mothsCome(Room room, Text text, boolean drawn) {
            Screens screens = room.screens;
            boolean changed = false;
            for (int screen = 0; screen < screens.count; screen++) {
                if (screens.isThere(screen) && screens.whole[screen] != 0) {
                    long law = cutLaw(room, text, screen);
                    long odds = law == Laws.ERROR ? text.moth : within(law, 100);
                    if (drawn ? mothDrawn(room, odds) : odds >= 50) {
                        screens.cutFirstWhole(screen);
                        changed = true;
                    }
                }
            }
            if (changed) screens.refresh();
        }

        private static boolean mothDrawn(Room room, long odds) {
            if (odds <= 0) return false;
            if (odds >= 100) return true;
            return room.drawNumber() % 100 < odds;
        }

        private static long within(long value, long most) {
            if (value < 0) return 0;
            return value > most ? most : value;
        }

        static long ageingLaw(Room room, Text text, int one, int cell, int from) {
            Screens screens = room.screens;
            text.laws.name(screens.seasonAt[cell], from, room.age[one], room.done[one], screens.farAt[cell],
                screens.wholeLeaves, room.hour);
            return text.laws.workOut(Laws.AGEING);
        }

        static long payLaw(Room room, Text text, int one) {
            Screens screens = room.screens;
            int cell = room.cellUnder(one);
            text.laws.name(screens.seasonAt[cell], room.work[one], room.age[one], room.done[one], screens.farAt[cell],
                screens.wholeLeaves, room.hour);
            return text.laws.workOut(Laws.PAY);
        }

        static long cutLaw(Room room, Text text, int screen) {
            Screens screens = room.screens;
            int whole = Integer.bitCount(screens.whole[screen]);
            text.laws.name(screens.season[screen], 0, 0, 0, screens.leaves[screen] - whole, whole, room.hour);
            return text.laws.workOut(Laws.CUT);
        }
    }

    /** The laws of a text: each one's knots in the order in which they are worked out. */
    private static final class Laws {
        static final int AGEING = 0;
        static final int PAY = 1;
        static final int CUT = 2;
        static final int RULES = 3;
        static final int MOST_KNOTS = 64;
        static final long ERROR = Long.MIN_VALUE;
        private static final long GREATEST = 1000000000000L;

        int knots;
        private int length;
        private final int[] kind = new int[MOST_KNOTS];
        private final int[] value = new int[MOST_KNOTS];
        private final int[] start = new int[RULES];
        private final int[] end = new int[RULES];
        private final long[] names = new long[7];
        private final long[] stack = new long[MOST_KNOTS];

        void clear() {
            knots = 0;
            length = 0;
            for (int rule = 0; rule < RULES; rule++) {
                start[rule] = 0;
                end[rule] = 0;
            }
        }

        boolean isTold(int rule) {
            return end[rule] > start[rule];
        }

        void begin(int rule) {
            start[rule] = length;
        }

        void finish(int rule) {
            end[rule] = length;
        }

        void put(int knotKind, int knotValue) {
            if (length >= MOST_KNOTS) return;
            kind[length] = knotKind;
            value[length] = knotValue;
            length++;
        }

        void name(int season, int from, int age, int done, int near, int whole, int hour) {
            names[0] = season;
            names[1] = from;
            names[2] = age;
            names[3] = done;
            names[4] = near;
            names[5] = whole;
            names[6] = hour;
        }

        /** ERROR also if there is no such law: every caller goes by its own rule then. */
        long workOut(int rule) {
            if (!isTold(rule)) return ERROR;
            int top = 0;
            for (int k = start[rule]; k < end[rule]; k++) {
                if (kind[k] == Reader.NUMBER || kind[k] == Reader.SEASON) {
                    if (top >= MOST_KNOTS) return ERROR;
                    stack[top] = kind[k] == Reader.NUMBER ? value[k] : names[value[k]];
                    top++;
                } else if (kind[k] == Reader.NOT) {
                    if (top < 1) return ERROR;
                    stack[top - 1] = stack[top - 1] == 0 ? 1 : 0;
                } else {
                    if (top < 2) return ERROR;
                    top--;
                    long joined = join(kind[k], stack[top - 1], stack[top]);
                    if (joined == ERROR) return ERROR;
                    stack[top - 1] = joined;
                }
            }
            return top == 1 ? stack[0] : ERROR;
        }

        private static long join(int sign, long a, long b) {
            switch (sign) {
                case Reader.PLUS: return bounded(a + b);
                case Reader.MINUS: return bounded(a - b);
                case Reader.TIMES: return product(a, b);
                case Reader.OVER: return b == 0 ? ERROR : a / b;
                case Reader.LESS: return a < b ? 1 : 0;
                case Reader.AT_MOST: return a <= b ? 1 : 0;
                case Reader.EQUAL: return a == b ? 1 : 0;
                case Reader.UNEQUAL: return a != b ? 1 : 0;
                case Reader.AT_LEAST: return a >= b ? 1 : 0;
                case Reader.MORE: return a > b ? 1 : 0;
                case Reader.AND: return a != 0 && b != 0 ? 1 : 0;
                case Reader.OR: return a != 0 || b != 0 ? 1 : 0;
                default: return ERROR;
            }
        }

        private static long bounded(long value) {
            return value > GREATEST || value < -GREATEST ? ERROR : value;
        }

        /** Two values within bounds may have a product that no long holds: so it is looked at ahead. */
        private static long product(long a, long b) {
            if (a == 0 || b == 0) return 0;
            long sizeA = a < 0 ? -a : a;
            long sizeB = b < 0 ? -b : b;
            return sizeB > GREATEST / sizeA ? ERROR : a * b;
        }
    }

    /** What a text tells. */
    private static final class Text {
        static final int MOST_CARRIES = 10;
        static final int MOST_STEPS = 12;

        final Room start = new Room();
        final Laws laws = new Laws();
        final int[] screenName = new int[Screens.MOST];
        final int[] folkName = new int[Room.MOST_FOLK];
        int lines;
        int moth;
        boolean roomTold;
        boolean mothTold;
        boolean seedTold;
        int carries;
        final int[] carryScreen = new int[MOST_CARRIES];
        final int[] carryHour = new int[MOST_CARRIES];
        final int[] carryRow = new int[MOST_CARRIES];
        final int[] carryColumn = new int[MOST_CARRIES];
        int steps;
        final int[] stepFolk = new int[MOST_STEPS];
        final int[] stepHour = new int[MOST_STEPS];
        final int[] stepWay = new int[MOST_STEPS];

        void clear() {
            start.empty();
            laws.clear();
            lines = 0;
            moth = 0;
            roomTold = false;
            mothTold = false;
            seedTold = false;
            carries = 0;
            steps = 0;
        }

        int screenNamed(int letters) {
            for (int k = 0; k < start.screens.count; k++) {
                if (screenName[k] == letters) return k;
            }
            return NONE;
        }

        int folkNamed(int letters) {
            for (int k = 0; k < start.folkCount; k++) {
                if (folkName[k] == letters) return k;
            }
            return NONE;
        }
    }

    /** The tape, and the tokens of a text on it, one after another. */
    private static final class Reader {
        static final int END = 0;
        static final int BAD = 1;
        static final int NUMBER = 2;
        static final int OWN_NAME = 3;
        static final int SEMICOLON = 4;
        static final int OPEN = 5;
        static final int CLOSE = 6;
        static final int PLUS = 7;
        static final int MINUS = 8;
        static final int TIMES = 9;
        static final int OVER = 10;
        static final int LESS = 11;
        static final int AT_MOST = 12;
        static final int EQUAL = 13;
        static final int UNEQUAL = 14;
        static final int AT_LEAST = 15;
        static final int MORE = 16;
        // The words of the language, in the order of WORDS.
        static final int ROOM = 20;
        static final int SCREEN = 21;
        static final int FOLK = 22;
        static final int CARRY = 23;
        static final int STEP = 24;
        static final int MOTH = 25;
        static final int SEED = 26;
        static final int LAW = 27;
        static final int AGEING = 28;
        static final int PAY = 29;
        static final int CUT = 30;
        static final int OR = 31;
        static final int AND = 32;
        static final int NOT = 33;
        static final int SEASON = 34;
        static final int HOUR = 40;
        private static final int WORD_COUNT = 21;
        private static final int LONGEST_WORD = 6;
        // Each filled up to the length of the longest.
        private static final String WORDS =
            "room  screenfolk  carry step  moth  seed  law   ageingpay   cut   or    and   not   seasonfrom  age   done  near  whole hour  ";
        private static final int TOO_GREAT = 1000000;

        private final int[] bytes = new int[LONGEST_TAPE];
        int fed = 0;
        private final int[] wordCode = new int[WORD_COUNT];
        private int length = 0;
        private int at = 0;
        int kind = END;
        int value = 0;
        int place = 0;

        Reader() {
            for (int word = 0; word < WORD_COUNT; word++) {
                int code = 0;
                for (int k = 0; k < LONGEST_WORD; k++) {
                    char letter = WORDS.charAt(word * LONGEST_WORD + k);
                    code = code * 32 + (letter == ' ' ? 0 : letterNumber(letter));
                }
                wordCode[word] = code;
            }
        }

        void putBytes(int four) {
            for (int shift = 24; shift >= 0; shift -= 8) {
                if (fed < LONGEST_TAPE) {
                    bytes[fed] = (four >> shift) & 255;
                    fed++;
                }
            }
        }

        void start(int byteCount) {
            length = Math.min(byteCount, fed);
            at = 0;
            next();
        }

        void next() {
            while (at < length && (bytes[at] == 10 || bytes[at] == 32)) at++;
            place = at;
            if (at >= length) kind = END;
            else if (isLetter(bytes[at])) takeWord();
            else if (isDigit(bytes[at])) takeDigits();
            else takeSign();
        }

        private static boolean isLetter(int sign) {
            return sign >= 'a' && sign <= 'z';
        }

        private static int letterNumber(int letter) {
            return letter - 'a' + 1;
        }

        private static boolean isDigit(int sign) {
            return sign >= '0' && sign <= '9';
        }

        private void takeWord() {
            int code = 0;
            int letters = 0;
            while (at < length && isLetter(bytes[at])) {
                if (letters < LONGEST_WORD) code = code * 32 + letterNumber(bytes[at]);
                letters++;
                at++;
            }
            for (int k = letters; k < LONGEST_WORD; k++) code *= 32;
            value = code;
            kind = letters > LONGEST_WORD ? BAD : wordKind(code);
        }

        private int wordKind(int code) {
            for (int word = 0; word < WORD_COUNT; word++) {
                if (wordCode[word] == code) return ROOM + word;
            }
            return OWN_NAME;
        }

        private void takeDigits() {
            int number = 0;
            while (at < length && isDigit(bytes[at])) {
                number = Math.min(TOO_GREAT, number * 10 + (bytes[at] - '0'));
                at++;
            }
            value = number;
            kind = NUMBER;
        }

        private void takeSign() {
            int sign = bytes[at];
            int behind = at + 1 < length ? bytes[at + 1] : 0;
            at++;
            switch (sign) {
                case ';': kind = SEMICOLON; break;
                case '(': kind = OPEN; break;
                case ')': kind = CLOSE; break;
                case '+': kind = PLUS; break;
                case '-': kind = MINUS; break;
                case '*': kind = TIMES; break;
                case '/': kind = OVER; break;
                case '=': kind = EQUAL; break;
                case '<': kind = behind == '=' ? AT_MOST : behind == '>' ? UNEQUAL : LESS; break;
                case '>': kind = behind == '=' ? AT_LEAST : MORE; break;
                default: kind = BAD; break;
            }
            if (kind == AT_MOST || kind == UNEQUAL || kind == AT_LEAST) at++;
        }
    }

    /** Reads a text line by line, up to its first fault. */
    private static final class Parser {
        private static final int WRONG_TOKEN = 1;
        private static final int TOO_MUCH = 2;
        private static final int TOLD_ALREADY = 3;
        private static final int NOT_TOLD = 4;
        private static final int DOES_NOT_FIT = 5;
        private static final int MOST_OPEN = 8;
        private static final int GREATEST_IN_LAW = 9999;
        private static final int RANK_OF_COMPARING = 4;

        int faultKind = 0;
        int faultPlace = NONE;
        final Reader reader = new Reader();
        // A faulty text must leave the standing one as it is: so it is read into a spare one.
        private Text into = new Text();
        private int number = 0;
        private int numberPlace = 0;
        // Signs of a law that wait for their right side, and brackets that are open.
        private final int[] waiting = new int[Laws.MOST_KNOTS + MOST_OPEN];
        private int waitingCount = 0;
        private int open = 0;
        // Bit k: a comparison stands already in what is being read within k brackets.
        private int compared = 0;
        private boolean operandDue = true;
        private boolean notMayStand = true;

        /** Gives the text that was read and takes the one that isn't used any more as the spare one. */
        Text exchange(Text old) {
            Text read = into;
            into = old;
            return read;
        }

        boolean parse(int byteCount) {
            into.clear();
            faultKind = 0;
            faultPlace = NONE;
            reader.start(byteCount);
            for (int k = 0; k < LONGEST_TAPE && reader.kind != Reader.END; k++) {
                if (!takeLine()) return false;
                into.lines++;
            }
            into.start.screens.refresh();
            return true;
        }

        private boolean refuseHere(int fault) {
            faultKind = fault;
            faultPlace = reader.place;
            return false;
        }

        private boolean takeLine() {
            switch (reader.kind) {
                case Reader.ROOM: return takeRoom();
                case Reader.SCREEN: return takeScreen();
                case Reader.FOLK: return takeFolk();
                case Reader.CARRY: return takeCarry();
                case Reader.STEP: return takeStep();
                case Reader.MOTH: return takeMoth();
                case Reader.SEED: return takeSeed();
                case Reader.LAW: return takeLaw();
                default: return refuseHere(WRONG_TOKEN);
            }
        }

        private boolean takeEnd() {
            if (reader.kind != Reader.SEMICOLON) return refuseHere(WRONG_TOKEN);
            reader.next();
            return true;
        }

        private boolean takeNumber(int least, int most) {
            if (reader.kind != Reader.NUMBER) return refuseHere(WRONG_TOKEN);
            if (reader.value < least || reader.value > most) return refuseHere(TOO_MUCH);
            number = reader.value;
            numberPlace = reader.place;
            reader.next();
            return true;
        }

        private boolean takeRoom() {
            Screens screens = into.start.screens;
            if (screens.count > 0 || into.start.folkCount > 0) return refuseHere(WRONG_TOKEN);
            if (into.roomTold) return refuseHere(TOLD_ALREADY);
            into.roomTold = true;
            reader.next();
            if (!takeNumber(1, Screens.SIDE)) return false;
            screens.rows = number;
            if (!takeNumber(1, Screens.SIDE)) return false;
            screens.columns = number;
            return takeEnd();
        }

        private boolean takeScreen() {
            Screens screens = into.start.screens;
            int screen = screens.count;
            if (screen >= Screens.MOST) return refuseHere(TOO_MUCH);
            reader.next();
            if (reader.kind != Reader.OWN_NAME) return refuseHere(WRONG_TOKEN);
            if (into.screenNamed(reader.value) >= 0) return refuseHere(TOLD_ALREADY);
            into.screenName[screen] = reader.value;
            reader.next();
            if (!takeNumber(0, Screens.NO_SEASON - 1)) return false;
            screens.season[screen] = number;
            if (!takeNumber(0, screens.rows - 1)) return false;
            screens.row[screen] = number;
            if (!takeNumber(0, screens.columns - 1)) return false;
            screens.column[screen] = number;
            if (!takeNumber(1, 4)) return false;
            screens.leaves[screen] = number;
            screens.whole[screen] = (1 << number) - 1;
            if (!takeNumber(0, 1)) return false;
            screens.down[screen] = number;
            if (!screens.fits(screen, screens.row[screen], screens.column[screen], number)) {
                refuseHere(DOES_NOT_FIT);
                faultPlace = numberPlace;
                return false;
            }
            screens.present |= 1 << screen;
            screens.count++;
            return takeEnd();
        }

        private boolean takeFolk() {
            Room room = into.start;
            int one = room.folkCount;
            if (one >= Room.MOST_FOLK) return refuseHere(TOO_MUCH);
            reader.next();
            if (reader.kind != Reader.OWN_NAME) return refuseHere(WRONG_TOKEN);
            if (into.folkNamed(reader.value) >= 0) return refuseHere(TOLD_ALREADY);
            into.folkName[one] = reader.value;
            reader.next();
            if (!takeNumber(0, 99)) return false;
            room.age[one] = number;
            if (!takeNumber(0, room.screens.rows - 1)) return false;
            room.row[one] = number;
            if (!takeNumber(0, room.screens.columns - 1)) return false;
            room.column[one] = number;
            if (!takeNumber(0, Screens.NO_SEASON - 1)) return false;
            room.work[one] = number;
            room.done[one] = 0;
            room.folkCount++;
            return takeEnd();
        }

        private boolean takeCarry() {
            int carry = into.carries;
            if (carry >= Text.MOST_CARRIES) return refuseHere(TOO_MUCH);
            reader.next();
            if (reader.kind != Reader.OWN_NAME) return refuseHere(WRONG_TOKEN);
            int screen = into.screenNamed(reader.value);
            if (screen < 0) return refuseHere(NOT_TOLD);
            into.carryScreen[carry] = screen;
            reader.next();
            if (!takeNumber(0, 99)) return false;
            into.carryHour[carry] = number;
            if (!takeNumber(0, Screens.SIDE - 1)) return false;
            into.carryRow[carry] = number;
            if (!takeNumber(0, Screens.SIDE - 1)) return false;
            into.carryColumn[carry] = number;
            into.carries++;
            return takeEnd();
        }

        private boolean takeStep() {
            int step = into.steps;
            if (step >= Text.MOST_STEPS) return refuseHere(TOO_MUCH);
            reader.next();
            if (reader.kind != Reader.OWN_NAME) return refuseHere(WRONG_TOKEN);
            int one = into.folkNamed(reader.value);
            if (one < 0) return refuseHere(NOT_TOLD);
            into.stepFolk[step] = one;
            reader.next();
            if (!takeNumber(0, 99)) return false;
            into.stepHour[step] = number;
            if (!takeNumber(0, 3)) return false;
            into.stepWay[step] = number;
            into.steps++;
            return takeEnd();
        }

        private boolean takeMoth() {
            if (into.mothTold) return refuseHere(TOLD_ALREADY);
            into.mothTold = true;
            reader.next();
            if (!takeNumber(0, 100)) return false;
            into.moth = number;
            return takeEnd();
        }

        private boolean takeSeed() {
            if (into.seedTold) return refuseHere(TOLD_ALREADY);
            into.seedTold = true;
            reader.next();
            if (!takeNumber(0, 99999)) return false;
            into.start.number = number;
            return takeEnd();
        }

        private boolean takeLaw() {
            reader.next();
            int rule = reader.kind - Reader.AGEING;
            if (rule < 0 || rule >= Laws.RULES) return refuseHere(WRONG_TOKEN);
            if (into.laws.isTold(rule)) return refuseHere(TOLD_ALREADY);
            reader.next();
            into.laws.begin(rule);
            if (!takeLawBody()) return false;
            into.laws.finish(rule);
            return takeEnd();
        }

        /** Operands and signs by turns: a sign waits until one that binds no tighter comes. */
        private boolean takeLawBody() {
            waitingCount = 0;
            open = 0;
            compared = 0;
            operandDue = true;
            notMayStand = true;
            for (int k = 0; k <= LONGEST_TAPE; k++) {
                if (!operandDue && open == 0 && reader.kind == Reader.SEMICOLON) {
                    release(1);
                    return true;
                }
                boolean taken = operandDue ? takeOperand() : takeBehindOperand();
                if (!taken) return false;
                reader.next();
            }
            return refuseHere(WRONG_TOKEN);
        }

        private boolean takeOperand() {
            int kind = reader.kind;
            if (kind == Reader.OPEN) return takeOpen();
            boolean isNumber = kind == Reader.NUMBER;
            boolean isNot = kind == Reader.NOT && notMayStand;
            boolean isName = kind >= Reader.SEASON && kind <= Reader.HOUR;
            if (!isNumber && !isNot && !isName) return refuseHere(WRONG_TOKEN);
            if (isNumber && reader.value > GREATEST_IN_LAW) return refuseHere(TOO_MUCH);
            if (!countKnot()) return false;
            if (isNot) {
                await(kind);
            } else {
                into.laws.put(isNumber ? kind : Reader.SEASON, isNumber ? reader.value : kind - Reader.SEASON);
                operandDue = false;
            }
            return true;
        }

        private boolean takeOpen() {
            if (open >= MOST_OPEN) return refuseHere(TOO_MUCH);
            await(Reader.OPEN);
            open++;
            compared &= ~(1 << open);
            notMayStand = true;
            return true;
        }

        private boolean takeBehindOperand() {
            int kind = reader.kind;
            if (kind == Reader.CLOSE && open > 0) {
                release(1);
                waitingCount = Math.max(0, waitingCount - 1);
                open--;
                return true;
            }
            int rank = rankOf(kind);
            boolean compares = rank == RANK_OF_COMPARING;
            if (rank == 0 || kind == Reader.NOT) return refuseHere(WRONG_TOKEN);
            if (compares && ((compared >> open) & 1) == 1) return refuseHere(WRONG_TOKEN);
            if (!countKnot()) return false;
            if (compares) compared |= 1 << open;
            if (rank < RANK_OF_COMPARING) compared &= ~(1 << open);
            release(rank);
            await(kind);
            operandDue = true;
            notMayStand = rank < RANK_OF_COMPARING;
            return true;
        }

        private boolean countKnot() {
            if (into.laws.knots >= Laws.MOST_KNOTS) return refuseHere(TOO_MUCH);
            into.laws.knots++;
            return true;
        }

        private void await(int kind) {
            if (waitingCount >= waiting.length) return;
            waiting[waitingCount] = kind;
            waitingCount++;
        }

        /** Puts the latest waiting signs of at least this rank, back to the last open bracket. */
        private void release(int rank) {
            while (waitingCount > 0 && rankOf(waiting[waitingCount - 1]) >= rank) {
                waitingCount--;
                into.laws.put(waiting[waitingCount], 0);
            }
        }

        /** How tightly a sign binds; 0 for what is no sign of a law. */
        private static int rankOf(int kind) {
            switch (kind) {
                case Reader.OR: return 1;
                case Reader.AND: return 2;
                case Reader.NOT: return 3;
                case Reader.LESS:
                case Reader.AT_MOST:
                case Reader.EQUAL:
                case Reader.UNEQUAL:
                case Reader.AT_LEAST:
                case Reader.MORE: return RANK_OF_COMPARING;
                case Reader.PLUS:
                case Reader.MINUS: return 5;
                case Reader.TIMES:
                case Reader.OVER: return 6;
                default: return 0;
            }
        }
    }

    /** Ways from a cell to all others, none into a whole leaf. */
    private static final class Ways {
        static final int NO_WAY = 1000000;

        final int[] first = new int[Screens.CELLS];
        final int[] second = new int[Screens.CELLS];
        private final int[] line = new int[Screens.CELLS];
        private final int[] settled = new int[Screens.CELLS];

        private void begin(int from, int[] lengths) {
            for (int cell = 0; cell < Screens.CELLS; cell++) {
                lengths[cell] = NO_WAY;
                settled[cell] = 0;
            }
            lengths[from] = 0;
        }

        void walk(Screens screens, int from, int[] lengths) {
            begin(from, lengths);
            line[0] = from;
            int inLine = 1;
            for (int k = 0; k < inLine; k++) {
                int cell = line[k];
                for (int way = 0; way < 4; way++) {
                    int next = screens.beyond(Screens.rowOf(cell), Screens.columnOf(cell), way);
                    if (next >= 0 && lengths[next] == NO_WAY && inLine < Screens.CELLS) {
                        lengths[next] = lengths[cell] + 1;
                        line[inLine] = next;
                        inLine++;
                    }
                }
            }
        }

        /** Lengths by what each step adds to the age, seasons as they are. */
        void walkYoung(Screens screens, int from, int[] lengths) {
            begin(from, lengths);
            for (int k = 0; k < Screens.CELLS; k++) {
                int cell = nearestOpen(lengths);
                if (cell < 0) return;
                settled[cell] = 1;
                for (int way = 0; way < 4; way++) {
                    int next = screens.beyond(Screens.rowOf(cell), Screens.columnOf(cell), way);
                    if (next >= 0) {
                        int older = (screens.seasonAt[next] - screens.seasonAt[cell]) & 3;
                        lengths[next] = Math.min(lengths[next], lengths[cell] + older);
                    }
                }
            }
        }

        private int nearestOpen(int[] lengths) {
            int nearest = NONE;
            int least = NO_WAY;
            for (int cell = 0; cell < Screens.CELLS; cell++) {
                if (settled[cell] == 0 && lengths[cell] < least) {
                    least = lengths[cell];
                    nearest = cell;
                }
            }
            return nearest;
        }

        /** The first cell with the least sum of both lengths; NONE if there is none. */
        int meetingCell(Screens screens) {
            int best = NONE;
            int least = NO_WAY;
            for (int row = 0; row < screens.rows; row++) {
                for (int column = 0; column < screens.columns; column++) {
                    int cell = Screens.cellOf(row, column);
                    int sum = first[cell] + second[cell];
                    if (sum < least) {
                        least = sum;
                        best = cell;
                    }
                }
            }
            return best;
        }
    }

    /** What was seen, and what strikes what was seen. */
    private static final class Sightings {
        static final int MOST = 24;
        static final int LAST_HOUR_SEEN = 40;

        int count = 0;
        // NONE: by all, also those to come.
        int knownBy = NONE;
        private final int[] hours = new int[MOST];
        private final int[] cell = new int[MOST];
        private final int[] season = new int[MOST];
        private final boolean[] isSo = new boolean[MOST];
        private final int[] strikes = new int[MOST];
        private final boolean[] struck = new boolean[MOST];

        void clear() {
            count = 0;
            knownBy = NONE;
        }

        int byHowMany() {
            return knownBy < 0 ? count : Math.min(knownBy, count);
        }

        int addSight(int afterHours, int inCell, int seasonSeen, boolean is) {
            if (count >= MOST) return NONE;
            hours[count] = afterHours;
            cell[count] = inCell;
            season[count] = seasonSeen;
            isSo[count] = is;
            strikes[count] = NONE;
            count++;
            return count - 1;
        }

        int addStrike(int seen) {
            if (count >= MOST || seen < 0 || seen >= count) return NONE;
            strikes[count] = seen;
            count++;
            return count - 1;
        }

        /** From the last one on: whether one strikes is settled before what it strikes is asked. */
        void strikeAll() {
            int n = byHowMany();
            for (int k = 0; k < n; k++) struck[k] = false;
            for (int k = n - 1; k >= 0; k--) {
                if (!struck[k] && strikes[k] >= 0) struck[strikes[k]] = true;
            }
        }

        private boolean isKnown(int k) {
            return strikes[k] < 0 && !struck[k];
        }

        int lastHourKnown() {
            int last = 0;
            for (int k = 0; k < byHowMany(); k++) {
                if (isKnown(k) && hours[k] > last) last = hours[k];
            }
            return last;
        }

        boolean agree(Screens screens, int hour) {
            for (int k = 0; k < byHowMany(); k++) {
                if (isKnown(k) && hours[k] == hour && (screens.seasonAt[cell[k]] == season[k]) != isSo[k]) return false;
            }
            return true;
        }
    }

    /** How screens and folk were before they were changed by call. */
    private static final class History {
        private static final int MOST = 20;
        private static final int WIDTH = 5;
        private static final int FOLK_FROM = 8;

        int count = 0;
        private final int[] rows = new int[MOST * WIDTH];

        void clear() {
            count = 0;
        }

        void addScreen(Screens screens, int screen) {
            add(screen, screens.row[screen], screens.column[screen], screens.down[screen], screens.whole[screen]);
        }

        void addFolk(Room room, int one) {
            add(FOLK_FROM + one, room.row[one], room.column[one], room.age[one], 0);
        }

        /** The oldest one is lost if there are too many. */
        private void add(int who, int row, int column, int third, int fourth) {
            if (count >= MOST) {
                System.arraycopy(rows, WIDTH, rows, 0, (MOST - 1) * WIDTH);
                count = MOST - 1;
            }
            int at = count * WIDTH;
            rows[at] = who;
            rows[at + 1] = row;
            rows[at + 2] = column;
            rows[at + 3] = third;
            rows[at + 4] = fourth;
            count++;
        }

        void takeBack(Room room) {
            if (count <= 0) return;
            count--;
            int at = count * WIDTH;
            int who = rows[at];
            int one = who - FOLK_FROM;
            if (room.isFolk(one)) {
                room.row[one] = rows[at + 1];
                room.column[one] = rows[at + 2];
                room.age[one] = rows[at + 3];
            } else if (room.screens.isScreen(who)) {
                room.screens.place(who, rows[at + 1], rows[at + 2], rows[at + 3]);
                room.screens.whole[who] = rows[at + 4];
            }
        }
    }

    /** What screens are worth: where one stands best, by all orders, turned against another, the fewest. */
    private static final class Judge {
        private static final int[] ORDERS_OF = {1, 1, 2, 6, 24, 120};

        int standRow = 0;
        int standColumn = 0;
        int standDown = 0;
        int standMany = 0;
        private final int[] rival = new int[Room.MOST_FOLK];
        private final int[] rivalFar = new int[Room.MOST_FOLK];
        // By the bits of the screens that are there: bits of the folk at work.
        private final int[] workersOf = new int[1 << Screens.MOST];
        // By twice the first one's turn and the other's.
        private final boolean[] mayBe = new boolean[4];
        private final int[] shareOfOne = new int[4];
        private final int[] shareOfOther = new int[4];

        void findStand(Room room, int screen) {
            Screens screens = room.screens;
            int row = screens.row[screen];
            int column = screens.column[screen];
            int down = screens.down[screen];
            findRivals(room, screen);
            standMany = NONE;
            for (int toRow = 0; toRow < screens.rows; toRow++) {
                for (int toColumn = 0; toColumn < screens.columns; toColumn++) {
                    for (int toDown = 0; toDown < 2; toDown++) {
                        if (screens.fits(screen, toRow, toColumn, toDown)) {
                            screens.place(screen, toRow, toColumn, toDown);
                            weighStand(screens, screen, workingBeside(room, screen));
                        }
                    }
                }
            }
            screens.place(screen, row, column, down);
        }

        private void weighStand(Screens screens, int screen, int many) {
            if (many <= standMany) return;
            standMany = many;
            standRow = screens.row[screen];
            standColumn = screens.column[screen];
            standDown = screens.down[screen];
        }

        /** Which of the other screens makes the season of each one's cell: the same wherever this one stands. */
        private void findRivals(Room room, int screen) {
            Screens screens = room.screens;
            for (int one = 0; one < room.folkCount; one++) {
                int nearest = screens.nearestOf(screens.present & ~(1 << screen), room.row[one], room.column[one]);
                rival[one] = nearest;
                rivalFar[one] = nearest < 0 ? Screens.FAR_OFF
                    : screens.farFrom(nearest, room.row[one], room.column[one]);
            }
        }

        private int workingBeside(Room room, int screen) {
            Screens screens = room.screens;
            int working = 0;
            for (int one = 0; one < room.folkCount; one++) {
                int far = screens.farFrom(screen, room.row[one], room.column[one]);
                boolean nearer = far < rivalFar[one] || (far == rivalFar[one] && screen < rival[one]);
                int maker = nearer ? screen : rival[one];
                if (maker >= 0 && screens.season[maker] == room.work[one]) working++;
            }
            return working;
        }

        void listWorkers(Room room) {
            Screens screens = room.screens;
            for (int bits = 0; bits < 1 << screens.count; bits++) {
                int workers = 0;
                for (int one = 0; one < room.folkCount; one++) {
                    int nearest = screens.nearestOf(bits, room.row[one], room.column[one]);
                    if (nearest >= 0 && screens.season[nearest] == room.work[one]) workers |= 1 << one;
                }
                workersOf[bits] = workers;
            }
        }

        /** Orders in which the same screens come ahead of this one are counted together. */
        int worthOf(int screen, int count) {
            int sum = 0;
            for (int bits = 0; bits < 1 << count; bits++) {
                if (((bits >> screen) & 1) == 0) {
                    int before = Integer.bitCount(bits);
                    int more = Integer.bitCount(workersOf[bits | 1 << screen]) - Integer.bitCount(workersOf[bits]);
                    sum += ORDERS_OF[before] * ORDERS_OF[count - 1 - before] * more;
                }
            }
            return sum;
        }

        int fewestScreens(int count) {
            int all = (1 << count) - 1;
            int wanted = workersOf[all];
            int best = all;
            for (int bits = 0; bits < all; bits++) {
                boolean does = (workersOf[bits] & wanted) == wanted;
                if (does && Integer.bitCount(bits) < Integer.bitCount(best)) best = bits;
            }
            return best;
        }

        /** Bit of each pair of turns that is a rest; the screens are left turned, so they must be a copy. */
        int restBits(Screens screens, int one, int other) {
            int oneDown = screens.down[one];
            int otherDown = screens.down[other];
            for (int pair = 0; pair < 4; pair++) {
                screens.down[one] = pair < 2 ? oneDown : 1 - oneDown;
                screens.down[other] = pair % 2 == 0 ? otherDown : 1 - otherDown;
                mayBe[pair] = staysInRoom(screens, one) && staysInRoom(screens, other);
                screens.refresh();
                shareOfOne[pair] = screens.cellsOf(screens.season[one]);
                shareOfOther[pair] = screens.cellsOf(screens.season[other]);
            }
            int bits = 0;
            for (int pair = 0; pair < 4; pair++) {
                if (isRest(pair)) bits |= 1 << pair;
            }
            return bits;
        }

        private static boolean staysInRoom(Screens screens, int screen) {
            return screens.isInRoom(screen, screens.row[screen], screens.column[screen], screens.down[screen]);
        }

        private boolean isRest(int pair) {
            int oneOtherwise = pair ^ 2;
            int otherOtherwise = pair ^ 1;
            if (!mayBe[pair]) return false;
            if (mayBe[oneOtherwise] && shareOfOne[oneOtherwise] > shareOfOne[pair]) return false;
            return !mayBe[otherOtherwise] || shareOfOther[otherOtherwise] <= shareOfOther[pair];
        }

        /** The greatest number that divides both; neither is below 0. */
        static long sharedDivisor(long a, long b) {
            long greater = a;
            long smaller = b;
            for (int k = 0; k < 200 && smaller != 0; k++) {
                long left = greater % smaller;
                greater = smaller;
                smaller = left;
            }
            return greater;
        }
    }
}
