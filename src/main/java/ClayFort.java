import java.util.Arrays;

/** A fort in the clay, what its guns see, and the trenches that are dug towards it. */
public final class ClayFort {
    public static final int UNKNOWN = -1, OUTSIDE = -2, STATE = -3, FULL = -4, NONE = -9;
    public static final long LOST = Long.MIN_VALUE;

    private static final int NULL = 1, CAST = 2, INDEX = 3, SIZE = 4;
    private static final int MOST_CELLS = 36, MOST_GUNS = 4, MOST_NUMBERS = 60;
    private static final int MOST_TOLD = 40, MOST_READINGS = 8;
    private static final int GUN = 0, HOWITZER = 1, MORTAR = 2;
    private static final int POST_REACH = 2;
    private static final int NEVER = 1 << 30;

    private final Sheet[] sheets = new Sheet[4];
    private final Land land = new Land();
    private final Ways ways = new Ways();
    private final int[] readCell = new int[MOST_READINGS];
    private final boolean[] readShot = new boolean[MOST_READINGS];
    private int readings = 0;
    private int traced = 0;
    private int latestFault = 0;

    public ClayFort() {
        for (int k = 0; k < sheets.length; k++) {
            sheets[k] = new Sheet();
        }
    }

    // ---- 1 the ground

    public int ground(int sheet, int lane, int i, int n) {
        latestFault = 0;
        Sheet from = sheetOf(sheet);
        if (from == null) {
            return UNKNOWN;
        }
        if (!isWithin(lane, 2)) {
            return OUTSIDE;
        }
        if (from.isOfOther(lane)) {
            return comeTo(CAST);
        }
        if (from.isNothing()) {
            return comeTo(NULL);
        }
        if (n < 0) {
            return comeTo(SIZE);
        }
        if (!from.holds(i, n)) {
            return comeTo(INDEX);
        }
        int wrong = Text.firstFault(from, i, n);
        if (wrong != NONE) {
            return -100 - wrong;
        }
        land.take(from, i, n);
        readings = 0;
        return land.guns;
    }

    public int ofGun(int g, int what) {
        if (!land.hasGun(g)) {
            return UNKNOWN;
        }
        switch (what) {
            case 0: return land.kind[g];
            case 1: return land.stand[g];
            case 2: return land.reach[g];
            case 3: return land.rangeOf(g);
            case 4: return land.silent >> g & 1;
            default: return OUTSIDE;
        }
    }

    public int clay(int c) {
        return land.hasCell(c) ? land.clay[c] : UNKNOWN;
    }

    public int soak(int c, int v) {
        if (!land.hasCell(c)) {
            return UNKNOWN;
        }
        if (!isWithin(v, 9)) {
            return OUTSIDE;
        }
        int was = land.clay[c];
        land.clay[c] = v;
        return was;
    }

    public int charge(int g, int v) {
        if (!land.hasGun(g)) {
            return UNKNOWN;
        }
        if (!isWithin(v, 9)) {
            return OUTSIDE;
        }
        int was = land.reach[g];
        land.reach[g] = v;
        return was;
    }

    public int hush(int g, boolean silent) {
        if (!land.hasGun(g)) {
            return UNKNOWN;
        }
        int was = land.silent >> g & 1;
        if (silent) {
            land.silent |= 1 << g;
        } else {
            land.silent &= ~(1 << g);
        }
        return was;
    }

    public int haul(int g, int c) {
        if (!land.hasGun(g) || !land.hasCell(c)) {
            return UNKNOWN;
        }
        int was = land.stand[g];
        land.stand[g] = c;
        return was;
    }

    // ---- 2 what is seen, dug

    public long sees(int g) {
        return land.hasGun(g) ? land.seenBy(g, land.standing()) : LOST;
    }

    public int shot(int c) {
        return land.hasCell(c) ? land.shootersAt(1L << c) : UNKNOWN;
    }

    public int is(int c, int what) {
        if (!land.hasCell(c)) {
            return UNKNOWN;
        }
        switch (what) {
            case 0: return isIn(c, land.soil()) ? 1 : 0;
            case 1: return isIn(c, land.dug) ? 1 : 0;
            default: return OUTSIDE;
        }
    }

    public int cover(int g) {
        return land.hasGun(g) ? land.coverersOf(g) : UNKNOWN;
    }

    public int bare() {
        if (land.cells == 0) {
            return STATE;
        }
        int set = 0;
        for (int g = 0; g < land.guns; g++) {
            if (land.coverersOf(g) == 0) {
                set |= 1 << g;
            }
        }
        return set;
    }

    public int dig(int c) {
        if (!land.hasCell(c)) {
            return UNKNOWN;
        }
        long begun = land.firstColumn | land.nextTo(land.dug);
        if (!isIn(c, land.openCells(land.silent) & begun)) {
            return STATE;
        }
        int nights = land.nightsOf(c);
        land.dug |= 1L << c;
        return nights;
    }

    public int fill() {
        if (land.cells == 0) {
            return STATE;
        }
        int were = Long.bitCount(land.dug);
        land.dug = 0;
        return were;
    }

    public int trench(int sheet, int lane, int i, int n, int what) {
        latestFault = 0;
        Sheet from = sheetOf(sheet);
        if (from == null) {
            return UNKNOWN;
        }
        if (!isWithin(lane, 2) || !isWithin(n, MOST_TOLD) || !isWithin(what, 4)) {
            return OUTSIDE;
        }
        if (land.cells == 0) {
            return STATE;
        }
        if (from.isOfOther(lane)) {
            return comeTo(CAST);
        }
        if (from.isNothing()) {
            return comeTo(NULL);
        }
        if (!from.holds(i, n)) {
            return comeTo(INDEX);
        }
        if (!land.hasCells(from, i, n)) {
            return UNKNOWN;
        }
        int wrong = land.firstWrong(from, i, n);
        if (what == 1) {
            return wrong;
        }
        return wrong == NONE ? ofTrench(from, i, n, what) : -100 - wrong;
    }

    private int ofTrench(Sheet from, int i, int n, int what) {
        long shotCells = land.shotCells(land.silent);
        long unlike = 0;
        int nights = 0;
        int timesShot = 0;
        for (int k = i; k < i + n; k++) {
            int c = from.numbers[k];
            if (!isIn(c, unlike)) {
                nights += land.nightsOf(c);
            }
            if (isIn(c, shotCells)) {
                timesShot++;
            }
            unlike |= 1L << c;
        }
        switch (what) {
            case 0: return nights;
            case 2: return timesShot;
            case 3: return land.shootersAt(unlike);
            default: return Long.bitCount(unlike);
        }
    }

    // ---- 3 ways

    public int sap(int c, int k) {
        if (!land.hasCell(c)) {
            return UNKNOWN;
        }
        if (k < -2 || k >= MOST_CELLS) {
            return OUTSIDE;
        }
        ways.find(land, land.openCells(land.silent), 0L, c);
        return ways.told(k);
    }

    public int rush(int c, int k) {
        if (!land.hasCell(c)) {
            return UNKNOWN;
        }
        if (k < -3 || k >= MOST_CELLS) {
            return OUTSIDE;
        }
        ways.find(land, land.soil(), land.shotCells(land.silent), c);
        return ways.told(k);
    }

    public int silence(int c) {
        if (!land.hasCell(c)) {
            return UNKNOWN;
        }
        int fewest = NONE;
        for (int set = 0; set < 1 << land.guns; set++) {
            boolean fewer = fewest == NONE || Integer.bitCount(set) < Integer.bitCount(fewest);
            if (fewer && (set & land.silent) == 0 && hasSap(c, set | land.silent)) {
                fewest = set;
            }
        }
        return fewest;
    }

    public int breach(int g) {
        if (!land.hasGun(g)) {
            return UNKNOWN;
        }
        int nights = breachNights(g);
        return nights == NEVER ? NONE : nights;
    }

    public int day(int what) {
        if (!isWithin(what, 1)) {
            return OUTSIDE;
        }
        if (land.cells == 0) {
            return STATE;
        }
        int first = NONE;
        int fewest = NEVER;
        for (int g = 0; g < land.guns; g++) {
            int nights = breachNights(g);
            if (nights < fewest) {
                fewest = nights;
                first = g;
            }
        }
        return what == 0 || first == NONE ? first : fewest;
    }

    public int post(int c, int what) {
        if (!land.hasCell(c)) {
            return UNKNOWN;
        }
        if (!isWithin(what, 1)) {
            return OUTSIDE;
        }
        int best = NONE;
        int most = -1;
        for (int p = 0; p < land.cells && most != NEVER; p++) {
            if (land.canBePost(p, c)) {
                int nights = nightsWithPost(p, c);
                if (nights > most) {
                    most = nights;
                    best = p;
                }
            }
        }
        if (what == 0) {
            return best;
        }
        return best == NONE || most == NEVER ? NONE : most;
    }

    private int sapNights(int c) {
        ways.find(land, land.openCells(land.silent), 0L, c);
        return ways.length == 0 ? NEVER : ways.told(-2);
    }

    private boolean hasSap(int c, int hushed) {
        return isIn(c, land.reachedFromWest(land.openCells(hushed)));
    }

    private int breachNights(int g) {
        int fewest = NEVER;
        for (int side = 0; side < 4; side++) {
            int c = land.beside(land.stand[g], side);
            if (c != NONE) {
                fewest = Math.min(fewest, sapNights(c));
            }
        }
        return fewest;
    }

    private int nightsWithPost(int p, int c) {
        land.addPost(p);
        int nights = sapNights(c);
        land.removePost();
        return nights;
    }

    // ---- 4 what was shot at

    public int reading(int c, boolean was) {
        if (!land.hasCell(c)) {
            return UNKNOWN;
        }
        if (readings >= MOST_READINGS) {
            return FULL;
        }
        readCell[readings] = c;
        readShot[readings] = was;
        readings++;
        return readings - 1;
    }

    public int back(int k) {
        if (!isWithin(k, readings)) {
            return OUTSIDE;
        }
        readings -= k;
        return readings;
    }

    public int reaches(int g) {
        if (!land.hasGun(g)) {
            return UNKNOWN;
        }
        int is = land.reach[g];
        int set = 0;
        for (int v = 0; v <= 9; v++) {
            land.reach[g] = v;
            if (areReadingsSo()) {
                set |= 1 << v;
            }
        }
        land.reach[g] = is;
        return set;
    }

    public int kinds(int g) {
        if (!land.hasGun(g)) {
            return UNKNOWN;
        }
        int is = land.kind[g];
        int set = 0;
        for (int v = GUN; v <= MORTAR; v++) {
            land.kind[g] = v;
            if (areReadingsSo()) {
                set |= 1 << v;
            }
        }
        land.kind[g] = is;
        return set;
    }

    public long haunts(int g) {
        if (!land.hasGun(g)) {
            return LOST;
        }
        int is = land.stand[g];
        long set = 0;
        for (int c = 0; c < land.cells; c++) {
            land.stand[g] = c;
            if (areReadingsSo()) {
                set |= 1L << c;
            }
        }
        land.stand[g] = is;
        return set;
    }

    public long odds(int c, int which) {
        if (!land.hasCell(c) || !isWithin(which, 1)) {
            return LOST;
        }
        int upper = 0;
        int lower = 0;
        for (int set = 0; set < 1 << land.guns; set++) {
            if ((set & land.silent) == 0) {
                lower++;
                upper += hasSap(c, set | land.silent) ? 1 : 0;
            }
        }
        // There are 1, 2, 4, 8 or 16 sets: no divisor but 2 can be shared.
        for (int turn = 0; turn < MOST_GUNS && (upper | lower) % 2 == 0; turn++) {
            upper /= 2;
            lower /= 2;
        }
        return which == 0 ? upper : lower;
    }

    private boolean areReadingsSo() {
        long shotCells = land.shotCells(land.silent);
        for (int k = 0; k < readings; k++) {
            if (isIn(readCell[k], shotCells) != readShot[k]) {
                return false;
            }
        }
        return true;
    }

    // ---- 5 sheets, parts

    public int sheet(int k, int lane, int n) {
        latestFault = 0;
        Sheet of = sheetOf(k);
        if (of == null) {
            return UNKNOWN;
        }
        if (!isWithin(lane, 2) || n > MOST_NUMBERS) {
            return OUTSIDE;
        }
        if (n < 0) {
            return comeTo(SIZE);
        }
        of.renew(lane, n);
        return 1;
    }

    public int lose(int k) {
        Sheet of = sheetOf(k);
        if (of == null) {
            return UNKNOWN;
        }
        if (of.isNothing()) {
            return 0;
        }
        of.empty();
        return 1;
    }

    public int put(int k, int i, int v) {
        latestFault = 0;
        Sheet of = sheetOf(k);
        if (of == null) {
            return UNKNOWN;
        }
        if (of.isNothing()) {
            return comeTo(NULL);
        }
        if (!of.holds(i, 1)) {
            return comeTo(INDEX);
        }
        of.numbers[i] = of.cut(v);
        return 1;
    }

    public long cell(int k, int i, int lane) {
        latestFault = 0;
        Sheet of = sheetOf(k);
        if (of == null || !isWithin(lane, 2)) {
            return LOST;
        }
        if (of.isOfOther(lane)) {
            latestFault = CAST;
            return LOST;
        }
        if (of.isNothing()) {
            latestFault = NULL;
            return LOST;
        }
        if (!of.holds(i, 1)) {
            latestFault = INDEX;
            return LOST;
        }
        return of.numbers[i];
    }

    public int copy(int k, int i, int other, int j, int n) {
        latestFault = 0;
        Sheet from = sheetOf(k);
        Sheet to = sheetOf(other);
        if (from == null || to == null) {
            return UNKNOWN;
        }
        if (from.isNothing() || to.isNothing()) {
            return comeTo(NULL);
        }
        if (from.isOfOther(to.lane)) {
            return comeTo(CAST);
        }
        if (!from.holds(i, n) || !to.holds(j, n)) {
            return comeTo(INDEX);
        }
        System.arraycopy(from.numbers, i, to.numbers, j, n);
        return n;
    }

    public int tell(int g) {
        if (!land.hasGun(g)) {
            return UNKNOWN;
        }
        switch (land.kind[g]) {
            case MORTAR: return tellMortar(g);
            case HOWITZER: return tellHowitzer(g);
            default: return tellGun(g);
        }
    }

    public int fire(int g) {
        if (!land.hasGun(g)) {
            return UNKNOWN;
        }
        return land.kind[g] == MORTAR ? fireMortar() : fireLent(g);
    }

    public int as(int g, int kind) {
        latestFault = 0;
        if (!land.hasGun(g)) {
            return UNKNOWN;
        }
        if (!isWithin(kind, MORTAR)) {
            return OUTSIDE;
        }
        // The kinds are a chain: each is also all those of a lower number.
        return land.kind[g] < kind ? comeTo(CAST) : 1;
    }

    public int trace() {
        return traced;
    }

    public int fault() {
        return latestFault;
    }

    public int many(int what) {
        switch (what) {
            case 0: return land.guns;
            case 1: return land.wide;
            case 2: return land.high;
            case 3: return Long.bitCount(land.dug);
            case 4: return readings;
            default: return OUTSIDE;
        }
    }

    private int tellGun(int g) {
        leave(1);
        return land.reach[g];
    }

    private int tellHowitzer(int g) {
        leave(2);
        return tellGun(g) + 100;
    }

    private int tellMortar(int g) {
        leave(3);
        int ofHowitzer = tellHowitzer(g);
        return ofHowitzer + tellGun(g);
    }

    private int fireLent(int g) {
        leave(4);
        return g;
    }

    private int fireMortar() {
        leave(5);
        return 90;
    }

    private void leave(int number) {
        traced = traced * 31 + number;
    }

    private int comeTo(int machineFault) {
        latestFault = machineFault;
        return -10 - machineFault;
    }

    private Sheet sheetOf(int k) {
        return isWithin(k, sheets.length - 1) ? sheets[k] : null;
    }

    private static boolean isWithin(int v, int most) {
        return v >= 0 && v <= most;
    }

    private static boolean isIn(int c, long set) {
        return (set >> c & 1L) != 0;
    }

    /** A row of numbers of a lane, or nothing; its room is made once and used again. */
    private static final class Sheet {
        static final int NO_LANE = -1;

        final int[] numbers = new int[MOST_NUMBERS];
        int lane = NO_LANE;
        int length = 0;

        void renew(int newLane, int n) {
            lane = newLane;
            length = n;
            Arrays.fill(numbers, 0);
        }

        void empty() {
            lane = NO_LANE;
            length = 0;
        }

        boolean isNothing() {
            return lane == NO_LANE;
        }

        boolean isOfOther(int asked) {
            return lane != NO_LANE && lane != asked;
        }

        boolean holds(int i, int n) {
            return i >= 0 && n >= 0 && i <= length && n <= length - i;
        }

        int cut(int v) {
            switch (lane) {
                case 0: return (byte) v;
                case 1: return (short) v;
                default: return v;
            }
        }
    }

    /** What codes a text of a ground may have, place by place. */
    private static final class Text {
        static final int HEAD = 3, PER_GUN = 5;

        /** NONE: it is a text. */
        static int firstFault(Sheet sheet, int from, int n) {
            int wide = 0;
            int high = 0;
            for (int place = 0; place < n; place++) {
                int code = sheet.numbers[from + place];
                if (!goesOn(place, code, wide, high)) {
                    return place;
                }
                if (place == 1) {
                    wide = code - '0';
                }
                if (place == 2) {
                    high = code - '0';
                }
            }
            int ofGuns = n - HEAD - wide * high;
            return ofGuns > 0 && ofGuns % PER_GUN == 0 ? NONE : n;
        }

        static boolean goesOn(int place, int code, int wide, int high) {
            if (place == 0) {
                return code == 'p';
            }
            if (place < HEAD) {
                return code >= '2' && code <= '6';
            }
            int ofGuns = place - HEAD - wide * high;
            if (ofGuns < 0) {
                return isWithin(code - '0', 9);
            }
            if (ofGuns >= MOST_GUNS * PER_GUN) {
                return false;
            }
            switch (ofGuns % PER_GUN) {
                case 0: return code == ';';
                case 1: return kindOf(code) != NONE;
                case 2: return isWithin(code - '0', wide - 1);
                case 3: return isWithin(code - '0', high - 1);
                default: return isWithin(code - '0', 9);
            }
        }

        static int kindOf(int code) {
            switch (code) {
                case 'g': return GUN;
                case 'h': return HOWITZER;
                case 'm': return MORTAR;
                default: return NONE;
            }
        }
    }

    /** The ground and its guns; sets of cells and guns are bits. There is none while it has no cells. */
    private static final class Land {
        static final int[] ACROSS = {-1, 0, 1, -1, 1, -1, 0, 1};
        static final int[] DOWN = {-1, -1, -1, 0, 0, 1, 1, 1};

        int wide = 0;
        int high = 0;
        int cells = 0;
        int guns = 0;
        int silent = 0;
        long dug = 0;
        long firstColumn = 0;
        long lastColumn = 0;
        final int[] clay = new int[MOST_CELLS];
        final int[] column = new int[MOST_CELLS];
        final int[] row = new int[MOST_CELLS];
        // One place more than guns may be told: post() tries out one gun more.
        final int[] kind = new int[MOST_GUNS + 1];
        final int[] stand = new int[MOST_GUNS + 1];
        final int[] reach = new int[MOST_GUNS + 1];

        /** The cells of the sheet must be a whole text. */
        void take(Sheet sheet, int from, int n) {
            int clayFrom = from + Text.HEAD;
            layCells(sheet.numbers[from + 1] - '0', sheet.numbers[from + 2] - '0');
            for (int c = 0; c < cells; c++) {
                clay[c] = sheet.numbers[clayFrom + c] - '0';
            }
            dug = 0;
            silent = 0;
            guns = 0;
            for (int at = clayFrom + cells; guns < MOST_GUNS && at < from + n; at += Text.PER_GUN) {
                kind[guns] = Text.kindOf(sheet.numbers[at + 1]);
                stand[guns] = sheet.numbers[at + 2] - '0' + (sheet.numbers[at + 3] - '0') * wide;
                reach[guns] = sheet.numbers[at + 4] - '0';
                guns++;
            }
        }

        void layCells(int newWide, int newHigh) {
            wide = newWide;
            high = newHigh;
            cells = 0;
            firstColumn = 0;
            lastColumn = 0;
            for (int y = 0; y < high; y++) {
                firstColumn |= 1L << cells;
                for (int x = 0; x < wide; x++) {
                    column[cells] = x;
                    row[cells] = y;
                    cells++;
                }
                lastColumn |= 1L << (cells - 1);
            }
        }

        boolean hasCell(int c) {
            return c >= 0 && c < cells;
        }

        boolean hasGun(int g) {
            return g >= 0 && g < guns;
        }

        boolean hasCells(Sheet sheet, int from, int n) {
            for (int k = from; k < from + n; k++) {
                if (!hasCell(sheet.numbers[k])) {
                    return false;
                }
            }
            return true;
        }

        int rangeOf(int g) {
            switch (kind[g]) {
                case HOWITZER: return reach[g] + 1;
                case MORTAR: return (reach[g] + 1) / 2;
                default: return reach[g];
            }
        }

        long standing() {
            long set = 0;
            for (int g = 0; g < guns; g++) {
                set |= 1L << stand[g];
            }
            return set;
        }

        long seenBy(int g, long standing) {
            return seenFrom(stand[g], rangeOf(g), standing);
        }

        long seenFrom(int c, int range, long standing) {
            long seen = 0;
            for (int way = 0; way < ACROSS.length; way++) {
                int x = column[c];
                int y = row[c];
                for (int off = 1; off <= range; off++) {
                    x += ACROSS[way];
                    y += DOWN[way];
                    if (x < 0 || x >= wide || y < 0 || y >= high) {
                        break;
                    }
                    long looked = 1L << (y * wide + x);
                    seen |= looked;
                    if ((standing & looked) != 0) {
                        break;
                    }
                }
            }
            return seen;
        }

        /** The guns that shoot at any of these cells. */
        int shootersAt(long aims) {
            long standing = standing();
            int set = 0;
            for (int g = 0; g < guns; g++) {
                if ((silent >> g & 1) == 0 && (seenBy(g, standing) & aims) != 0) {
                    set |= 1 << g;
                }
            }
            return set;
        }

        /** The cells that are shot if these guns are silent and no others. */
        long shotCells(int hushed) {
            long standing = standing();
            long set = 0;
            for (int g = 0; g < guns; g++) {
                if ((hushed >> g & 1) == 0) {
                    set |= seenBy(g, standing);
                }
            }
            return set;
        }

        int coverersOf(int covered) {
            long standing = standing();
            int set = 0;
            for (int g = 0; g < guns; g++) {
                if (isIn(stand[covered], seenBy(g, standing))) {
                    set |= 1 << g;
                }
            }
            return set;
        }

        long soil() {
            long set = 0;
            for (int c = 0; c < cells; c++) {
                if (clay[c] > 0) {
                    set |= 1L << c;
                }
            }
            return set & ~standing();
        }

        /** The soil that is not shot if these guns are silent and no others. */
        long openCells(int hushed) {
            return soil() & ~shotCells(hushed);
        }

        int nightsOf(int c) {
            return isIn(c, dug) ? 0 : clay[c];
        }

        /** Bits beyond the last cell may be set too. */
        long nextTo(long set) {
            long sideways = (set & ~lastColumn) << 1 | (set & ~firstColumn) >> 1;
            return sideways | set << wide | set >> wide;
        }

        /** The sides are in the order of the cells' numbers. NONE: the land ends there. */
        int beside(int c, int side) {
            switch (side) {
                case 0: return row[c] > 0 ? c - wide : NONE;
                case 1: return column[c] > 0 ? c - 1 : NONE;
                case 2: return column[c] < wide - 1 ? c + 1 : NONE;
                default: return row[c] < high - 1 ? c + wide : NONE;
            }
        }

        long reachedFromWest(long open) {
            long reached = open & firstColumn;
            for (int turn = 0; turn < cells; turn++) {
                reached |= nextTo(reached) & open;
            }
            return reached;
        }

        /** The cells of the sheet must be cells of the land. */
        int firstWrong(Sheet sheet, int from, int n) {
            long soil = soil();
            long begun = firstColumn;
            for (int k = 0; k < n; k++) {
                int c = sheet.numbers[from + k];
                if (!isIn(c, soil & begun)) {
                    return k;
                }
                begun = nextTo(1L << c);
            }
            return NONE;
        }

        boolean canBePost(int p, int aim) {
            long standing = standing();
            return p != aim && !isIn(p, standing) && !isIn(aim, seenFrom(p, POST_REACH, standing));
        }

        void addPost(int p) {
            kind[guns] = GUN;
            stand[guns] = p;
            reach[guns] = POST_REACH;
            guns++;
        }

        void removePost() {
            guns--;
        }
    }

    /** Finds the best way to a cell; it is known until the next one is looked for. */
    private static final class Ways {
        // A cost is one number, so that ways are compared at once:
        // shot cells, then nights (324 at most), then cells (36 at most).
        static final int SHOT_UNIT = 1 << 20, NIGHT_UNIT = 1 << 8, FAR = 1 << 30;

        final int[] own = new int[MOST_CELLS];
        // From a cell to the aim, with both of them.
        final int[] rest = new int[MOST_CELLS];
        final int[] cells = new int[MOST_CELLS];
        int length = 0;
        int cost = 0;

        void find(Land land, long open, long shotCells, int aim) {
            length = 0;
            if (!isIn(aim, open)) {
                return;
            }
            price(land, shotCells);
            spread(land, open, aim);
            int first = bestFirst(land);
            if (first != NONE) {
                cost = rest[first];
                follow(land, first);
            }
        }

        void price(Land land, long shotCells) {
            for (int c = 0; c < land.cells; c++) {
                own[c] = land.nightsOf(c) * NIGHT_UNIT + 1;
                if (isIn(c, shotCells)) {
                    own[c] += SHOT_UNIT;
                }
            }
        }

        void spread(Land land, long open, int aim) {
            Arrays.fill(rest, FAR);
            rest[aim] = own[aim];
            long fresh = 1L << aim;
            // No best way has more cells than the land.
            for (int turn = 0; turn < land.cells && fresh != 0; turn++) {
                fresh = spreadOnce(land, open, fresh);
            }
        }

        long spreadOnce(Land land, long open, long fresh) {
            long better = 0;
            for (int c = 0; c < land.cells; c++) {
                for (int side = 0; side < 4 && isIn(c, fresh); side++) {
                    int next = land.beside(c, side);
                    if (next != NONE && isIn(next, open) && rest[c] + own[next] < rest[next]) {
                        rest[next] = rest[c] + own[next];
                        better |= 1L << next;
                    }
                }
            }
            return better;
        }

        int bestFirst(Land land) {
            int best = NONE;
            int least = FAR;
            for (int c = 0; c < land.cells; c++) {
                if (land.column[c] == 0 && rest[c] < least) {
                    least = rest[c];
                    best = c;
                }
            }
            return best;
        }

        void follow(Land land, int first) {
            int c = first;
            for (int k = 0; k < land.cells && c != NONE; k++) {
                cells[k] = c;
                length = k + 1;
                c = stepFrom(land, c);
            }
        }

        /** The first side that costs no more: best ways have as many cells, so it is first as a row. */
        int stepFrom(Land land, int c) {
            int left = rest[c] - own[c];
            for (int side = 0; side < 4; side++) {
                int next = land.beside(c, side);
                if (next != NONE && rest[next] == left) {
                    return next;
                }
            }
            return NONE;
        }

        int told(int k) {
            if (length == 0) {
                return NONE;
            }
            switch (k) {
                case -3: return cost / SHOT_UNIT;
                case -2: return cost % SHOT_UNIT / NIGHT_UNIT;
                case -1: return length;
                default: return k >= 0 && k < length ? cells[k] : NONE;
            }
        }
    }
}
