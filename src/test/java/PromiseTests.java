/** For each promise ordinary inputs, the edges that the document names, and wrong inputs; answers worked out by hand. */
public final class PromiseTests {
    private static final int UNKNOWN = -1, OUTSIDE = -2, STATE = -3, FULL = -4, NONE = -9;
    private static final int NULL = -11, CAST = -12, INDEX = -13, SIZE = -14;
    private static final int LOW = Integer.MIN_VALUE, TOP = Integer.MAX_VALUE;

    /*
     *  1  2  3       A gun in 8 that sees 4, 5, 7.
     *  0  4  5       Soil: all but the water in 3 and the gun's cell 8.
     *  6  7  8
     */
    private static final String SMALL = "p33123045678;g221";

    /*
     *  1 1 1 1 1     g0 in 7 (reach 1): sees 1 2 3 6 8 11 12 13
     *  1 1 1 1 1
     *  1 1 1 1 1
     */
    private static final String OPEN = "p53111111111111111;g211";

    private static int passed = 0;
    private static int failed = 0;

    private static void due(int promise, String call, long got, long want) {
        if (got == want) {
            passed++;
        } else {
            failed++;
            System.out.println("promise " + promise + ": " + call + " answered " + got + ", due is " + want);
        }
    }

    public static void main(String[] args) {
        newObject();
        groundTaken();
        groundFirstFaults();
        groundRefused();
        groundMakesAnew();
        ofGun();
        clayAndSoak();
        charge();
        hush();
        haul();
        sees();
        shot();
        is();
        coverAndBare();
        dig();
        fill();
        trench();
        trenchRefused();
        sap();
        sapTies();
        rush();
        silence();
        breachAndDay();
        post();
        readingAndBack();
        reaches();
        kinds();
        haunts();
        odds();
        sheet();
        lose();
        put();
        cell();
        copy();
        tell();
        fire();
        as();
        fault();
        many();
        System.out.println("PromiseTests: " + passed + " passed, " + failed + " failed");
        System.exit(failed == 0 ? 0 : 1);
    }

    // ---- helpers

    private static int put(ClayFort x, int sheet, int lane, String text) {
        x.sheet(sheet, lane, text.length());
        for (int k = 0; k < text.length(); k++) {
            x.put(sheet, k, text.charAt(k));
        }
        return x.ground(sheet, lane, 0, text.length());
    }

    private static ClayFort of(String text) {
        ClayFort x = new ClayFort();
        due(2, "ground of " + text, put(x, 3, 0, text), text.chars().filter(c -> c == ';').count());
        return x;
    }

    private static void row(ClayFort x, int sheet, int... cells) {
        x.sheet(sheet, 2, cells.length);
        for (int k = 0; k < cells.length; k++) {
            x.put(sheet, k, cells[k]);
        }
    }

    private static long bits(int... members) {
        long set = 0;
        for (int k : members) {
            set |= 1L << k;
        }
        return set;
    }

    private static void sapIs(ClayFort x, int c, int nights, int... way) {
        due(17, "nights of sap " + c, x.sap(c, -2), nights);
        due(17, "cells of sap " + c, x.sap(c, -1), nights == NONE ? NONE : way.length);
        for (int k = 0; k < 36; k++) {
            due(17, "sap " + c + " cell " + k, x.sap(c, k), k < way.length ? way[k] : NONE);
        }
    }

    private static void rushIs(ClayFort x, int c, int shot, int nights, int... way) {
        due(18, "shot of rush " + c, x.rush(c, -3), shot);
        due(18, "nights of rush " + c, x.rush(c, -2), nights);
        due(18, "cells of rush " + c, x.rush(c, -1), nights == NONE ? NONE : way.length);
        for (int k = 0; k < 36; k++) {
            due(18, "rush " + c + " cell " + k, x.rush(c, k), k < way.length ? way[k] : NONE);
        }
    }

    private static void trenchIs(ClayFort x, int nights, int shot, int shooters, int unlike, int... cells) {
        row(x, 2, cells);
        int n = cells.length;
        due(16, "nights", x.trench(2, 2, 0, n, 0), nights);
        due(16, "first wrong", x.trench(2, 2, 0, n, 1), NONE);
        due(16, "shot", x.trench(2, 2, 0, n, 2), shot);
        due(16, "shooters", x.trench(2, 2, 0, n, 3), shooters);
        due(16, "unlike", x.trench(2, 2, 0, n, 4), unlike);
    }

    private static void trenchIsWrong(ClayFort x, int firstWrong, int... cells) {
        row(x, 2, cells);
        int n = cells.length;
        for (int what = 0; what < 5; what++) {
            due(16, "wrong trench, " + what, x.trench(2, 2, 0, n, what), what == 1 ? firstWrong : -100 - firstWrong);
        }
    }

    // ---- 1 the ground

    private static void newObject() {
        ClayFort x = new ClayFort();
        for (int what = 0; what < 5; what++) {
            due(1, "many " + what, x.many(what), 0);
        }
        for (int k = 0; k < 4; k++) {
            due(1, "lose " + k, x.lose(k), 0);
            due(1, "put " + k, x.put(k, 0, 1), NULL);
        }
        due(1, "clay", x.clay(0), UNKNOWN);
        due(1, "ofGun", x.ofGun(0, 0), UNKNOWN);
        due(1, "bare", x.bare(), STATE);
        due(1, "fill", x.fill(), STATE);
        due(1, "day", x.day(0), STATE);
        due(1, "sees", x.sees(0), ClayFort.LOST);
        due(1, "haunts", x.haunts(0), ClayFort.LOST);
        due(1, "odds", x.odds(0, 0), ClayFort.LOST);
        due(1, "reading", x.reading(0, true), UNKNOWN);
        due(1, "back 0", x.back(0), 0);
        due(1, "back 1", x.back(1), OUTSIDE);
        due(1, "trace", x.trace(), 0);
        due(1, "fault of a new one", new ClayFort().fault(), 0);
        due(1, "UNKNOWN", ClayFort.UNKNOWN, UNKNOWN);
        due(1, "OUTSIDE", ClayFort.OUTSIDE, OUTSIDE);
        due(1, "STATE", ClayFort.STATE, STATE);
        due(1, "FULL", ClayFort.FULL, FULL);
        due(1, "NONE", ClayFort.NONE, NONE);
        due(1, "LOST", ClayFort.LOST, Long.MIN_VALUE);
    }

    private static void groundTaken() {
        ClayFort x = of("p221234;g000");
        due(2, "wide", x.many(1), 2);
        due(2, "high", x.many(2), 2);
        due(2, "clay 3", x.clay(3), 4);
        x = of("p26" + "0".repeat(12) + ";g159;h009;m159;g159");
        due(2, "high", x.many(2), 6);
        due(2, "stand", x.ofGun(0, 1), 11);
        for (int lane = 0; lane < 3; lane++) {
            due(2, "largest, lane " + lane, put(x, lane, lane, "p66" + "9".repeat(36) + ";g000;h550;m055;g509"), 4);
            due(2, "wide", x.many(1), 6);
        }
        due(2, "cells", x.clay(35), 9);
        due(2, "no more", x.clay(36), UNKNOWN);
        due(2, "column, then row", x.ofGun(2, 1), 30);
        due(2, "column, then row", x.ofGun(3, 1), 5);
        // A text may stand anywhere in its sheet.
        String padded = "zz" + SMALL + ";";
        put(x, 0, 1, padded);
        due(2, "from 2 on", x.ground(0, 1, 2, SMALL.length()), 1);
        due(2, "from 2 on, one too many", x.ground(0, 1, 2, SMALL.length() + 1), -100 - SMALL.length() - 1);
    }

    private static void faultIs(String text, int place) {
        ClayFort x = new ClayFort();
        for (int lane = 0; lane < 3; lane++) {
            due(2, "ground of '" + text + "'", put(x, 0, lane, text), -100 - place);
            due(2, "a first fault is none of the machine's", x.fault(), 0);
        }
    }

    private static void groundFirstFaults() {
        for (int n = 0; n < SMALL.length(); n++) {
            faultIs(SMALL.substring(0, n), n);
        }
        faultIs("q33", 0);
        faultIs("P33", 0);
        faultIs("p13", 1);
        faultIs("p73", 1);
        faultIs("p31", 2);
        faultIs("p37", 2);
        faultIs("p2212:4", 5);
        faultIs("p2212/4", 5);
        faultIs("p22123;", 6);
        faultIs("p2212345;g000", 7);
        faultIs("p221234g000", 7);
        faultIs("p221234;x000", 8);
        faultIs("p221234;G000", 8);
        faultIs("p221234;g200", 9);
        faultIs("p221234;g/00", 9);
        faultIs("p221234;g020", 10);
        faultIs("p32123456;g220", 12);
        faultIs("p23123456;g200", 11);
        faultIs("p221234;g00;", 11);
        faultIs("p221234;g00:", 11);
        faultIs("p221234;g0000", 12);
        faultIs("p221234;g000;", 13);
        faultIs("p221234;g000;h110;m010;g100;g000", 27);
        faultIs("p66" + "9".repeat(36) + ";g000;h550;m055;g509;", 59);
        // In ints and shorts a code stays what it is; in bytes it is cut to p.
        ClayFort x = new ClayFort();
        x.sheet(0, 2, 1);
        x.put(0, 0, 112 + 256);
        due(2, "368", x.ground(0, 2, 0, 1), -100);
        x.put(0, 0, LOW);
        due(2, "lowest int", x.ground(0, 2, 0, 1), -100);
        x.sheet(0, 0, 1);
        x.put(0, 0, 112 + 256);
        due(2, "368 in a byte", x.ground(0, 0, 0, 1), -101);
        x.sheet(0, 2, 4);
        x.put(0, 0, 'p');
        x.put(0, 1, '2');
        x.put(0, 2, '2');
        x.put(0, 3, LOW);
        due(2, "lowest int as clay", x.ground(0, 2, 0, 4), -103);
        x.put(0, 3, TOP);
        due(2, "highest int as clay", x.ground(0, 2, 0, 4), -103);
    }

    private static void groundRefused() {
        ClayFort x = new ClayFort();
        x.sheet(0, 0, 5);
        due(2, "sheet 4", x.ground(4, 3, 0, 0), UNKNOWN);
        due(2, "sheet -1", x.ground(-1, 0, 0, 0), UNKNOWN);
        due(2, "sheet lowest", x.ground(LOW, 0, 0, 0), UNKNOWN);
        due(2, "lane 3", x.ground(0, 3, 0, -1), OUTSIDE);
        due(2, "lane -1", x.ground(1, -1, 0, 0), OUTSIDE);
        due(2, "cast ahead of size", x.ground(0, 1, 0, -1), CAST);
        due(2, "nothing is no cast, null ahead of size", x.ground(1, 1, 0, -1), NULL);
        due(2, "size ahead of index", x.ground(0, 0, -1, -1), SIZE);
        due(2, "size", x.ground(0, 0, 0, LOW), SIZE);
        due(2, "i -1", x.ground(0, 0, -1, 0), INDEX);
        due(2, "i at the end, none", x.ground(0, 0, 5, 0), -100);
        due(2, "i beyond the end, none", x.ground(0, 0, 6, 0), INDEX);
        due(2, "one beyond", x.ground(0, 0, 1, 5), INDEX);
        due(2, "far beyond", x.ground(0, 0, 1, TOP), INDEX);
        due(2, "far from", x.ground(0, 0, TOP, 1), INDEX);
        due(2, "all", x.ground(0, 0, 0, 5), -100);
    }

    private static void groundMakesAnew() {
        ClayFort x = of(SMALL);
        x.hush(0, true);
        x.dig(0);
        x.reading(4, true);
        x.tell(0);
        due(2, "a text that is none", put(x, 0, 0, "p22"), -103);
        due(2, "leaves the ground", x.many(1), 3);
        due(2, "leaves what is dug", x.many(3), 1);
        due(2, "leaves readings", x.many(4), 1);
        due(2, "leaves silence", x.ofGun(0, 4), 1);
        due(2, "again", x.ground(3, 0, 0, SMALL.length()), 1);
        due(2, "no gun is silent", x.ofGun(0, 4), 0);
        due(2, "nothing is dug", x.many(3), 0);
        due(2, "no readings", x.many(4), 0);
        due(2, "trace stays", x.trace(), 1);
        due(2, "sheets stay", x.cell(3, 0, 0), 'p');
        of("p221111;g000;g000");
        due(2, "fewer cells, guns", put(x, 0, 2, "p221111;g000"), 1);
        due(2, "fewer cells", x.clay(4), UNKNOWN);
        due(2, "one gun sees nothing", x.sees(0), 0);
    }

    private static void ofGun() {
        ClayFort x = of("p44" + "1".repeat(16) + ";g123;h214;m305;m009");
        int[][] due = {{0, 9, 3, 3, 0}, {1, 6, 4, 5, 0}, {2, 3, 5, 3, 0}, {2, 0, 9, 5, 0}};
        for (int g = 0; g < 4; g++) {
            for (int what = 0; what < 5; what++) {
                due(3, "ofGun " + g + " " + what, x.ofGun(g, what), due[g][what]);
            }
            due(3, "what 5", x.ofGun(g, 5), OUTSIDE);
            due(3, "what -1", x.ofGun(g, -1), OUTSIDE);
        }
        int[] halves = {0, 1, 1, 2, 2, 3, 3, 4, 4, 5};
        for (int v = 0; v < 10; v++) {
            x.charge(0, v);
            x.charge(1, v);
            x.charge(2, v);
            due(3, "range of a gun", x.ofGun(0, 3), v);
            due(3, "range of a howitzer", x.ofGun(1, 3), v + 1);
            due(3, "range of a mortar", x.ofGun(2, 3), halves[v]);
        }
        due(3, "gun 4", x.ofGun(4, 0), UNKNOWN);
        due(3, "gun -1", x.ofGun(-1, 9), UNKNOWN);
    }

    private static void clayAndSoak() {
        ClayFort x = of(SMALL);
        int[] due = {1, 2, 3, 0, 4, 5, 6, 7, 8};
        for (int c = 0; c < 9; c++) {
            due(4, "clay " + c, x.clay(c), due[c]);
        }
        due(4, "clay 9", x.clay(9), UNKNOWN);
        due(4, "clay -1", x.clay(-1), UNKNOWN);
        due(5, "soak", x.soak(0, 9), 1);
        due(5, "soak again", x.soak(0, 0), 9);
        due(5, "is water", x.is(0, 0), 0);
        due(4, "clay 0", x.clay(0), 0);
        due(5, "10", x.soak(1, 10), OUTSIDE);
        due(5, "-1", x.soak(1, -1), OUTSIDE);
        due(5, "cell 9", x.soak(9, 10), UNKNOWN);
        due(5, "nothing changed", x.clay(1), 2);
    }

    private static void charge() {
        ClayFort x = of(SMALL);
        due(6, "charge", x.charge(0, 2), 1);
        due(6, "sees more", x.sees(0), bits(4, 5, 7, 0, 2, 6));
        due(6, "charge 0", x.charge(0, 0), 2);
        due(6, "sees nothing", x.sees(0), 0);
        due(6, "10", x.charge(0, 10), OUTSIDE);
        due(6, "-1", x.charge(0, -1), OUTSIDE);
        due(6, "gun 1", x.charge(1, 10), UNKNOWN);
        due(6, "is", x.ofGun(0, 2), 0);
    }

    private static void hush() {
        ClayFort x = of(SMALL);
        due(7, "hush", x.hush(0, true), 0);
        due(7, "still", x.hush(0, true), 1);
        due(7, "not shot", x.shot(4), 0);
        due(7, "sees all the same", x.sees(0), bits(4, 5, 7));
        due(7, "no longer", x.hush(0, false), 1);
        due(7, "is not", x.hush(0, false), 0);
        due(7, "shot", x.shot(4), 1);
        due(7, "gun 1", x.hush(1, true), UNKNOWN);
        ClayFort y = of("p221111;g001;g000;g101");
        due(7, "another", y.hush(2, true), 0);
        due(7, "not by it", y.shot(3), 1);
        due(7, "still", y.hush(2, true), 1);
        due(7, "the one beside it is not", y.hush(1, false), 0);
        due(7, "no longer", y.hush(2, false), 1);
        due(7, "by it again", y.shot(3), 5);
        due(7, "gun -1", x.hush(-1, true), UNKNOWN);
    }

    private static void haul() {
        ClayFort x = of(SMALL);
        due(8, "into water", x.haul(0, 3), 8);
        due(8, "sees", x.sees(0), bits(0, 1, 4, 6, 7));
        due(8, "soil again", x.is(8, 0), 1);
        due(8, "to where it is", x.haul(0, 3), 3);
        due(8, "gun 1", x.haul(1, 0), UNKNOWN);
        due(8, "cell 9", x.haul(0, 9), UNKNOWN);
        due(8, "cell -1", x.haul(0, -1), UNKNOWN);
        due(8, "stands", x.ofGun(0, 1), 3);
        x.haul(0, 8);
        x.dig(0);
        due(8, "to a dug cell", x.haul(0, 0), 8);
        due(8, "that stays dug", x.is(0, 1), 1);
        due(8, "and is no soil", x.is(0, 0), 0);
    }

    // ---- 2 what is seen, dug

    private static void sees() {
        ClayFort x = of("p66" + "0".repeat(36) + ";g009");
        due(9, "row, column, slant", x.sees(0), bits(1, 2, 3, 4, 5, 6, 12, 18, 24, 30, 7, 14, 21, 28, 35));
        x.charge(0, 2);
        due(9, "reach 2", x.sees(0), bits(1, 2, 6, 12, 7, 14));
        x.haul(0, 14);
        due(9, "from the middle", x.sees(0), bits(0, 2, 4, 7, 8, 9, 12, 13, 15, 16, 19, 20, 21, 24, 26, 28));
        x.charge(0, 0);
        due(9, "reach 0", x.sees(0), 0);
        // A gun stops the sight behind it, silent or not, but is seen itself.
        x = of("p62" + "1".repeat(12) + ";g009;h200;m200");
        due(9, "up to a gun", x.sees(0), bits(1, 2, 6, 7));
        due(9, "a howitzer's range", x.sees(1), bits(1, 3, 7, 8, 9));
        due(9, "a mortar's range", x.sees(2), 0);
        x.hush(1, true);
        x.hush(2, true);
        due(9, "a silent one too", x.sees(0), bits(1, 2, 6, 7));
        x.haul(1, 11);
        due(9, "one is enough", x.sees(0), bits(1, 2, 6, 7));
        x.haul(2, 11);
        due(9, "none is left", x.sees(0), bits(1, 2, 3, 4, 5, 6, 7));
        // No sight goes around the edge of the ground.
        x = of("p33" + "1".repeat(9) + ";g219");
        due(9, "at the edge", x.sees(0), bits(1, 2, 3, 4, 7, 8));
        due(9, "gun 1", x.sees(1), ClayFort.LOST);
        due(9, "gun -1", x.sees(-1), ClayFort.LOST);
    }

    private static void shot() {
        ClayFort x = of("p33" + "1".repeat(9) + ";g001;h220;m201");
        due(10, "by two of three", x.shot(1), bits(0, 2));
        due(10, "by all", x.shot(4), bits(0, 1, 2));
        due(10, "by none", x.shot(6), 0);
        due(10, "none shoots its own cell", x.shot(0), 0);
        x.hush(2, true);
        due(10, "not by a silent one", x.shot(4), bits(0, 1));
        due(10, "cell 9", x.shot(9), UNKNOWN);
        due(10, "cell -1", x.shot(-1), UNKNOWN);
    }

    private static void is() {
        ClayFort x = of(SMALL);
        for (int c = 0; c < 9; c++) {
            due(11, "soil " + c, x.is(c, 0), c == 3 || c == 8 ? 0 : 1);
            due(11, "dug " + c, x.is(c, 1), 0);
        }
        x.dig(0);
        due(11, "dug", x.is(0, 1), 1);
        due(11, "soil still", x.is(0, 0), 1);
        due(11, "what 2", x.is(0, 2), OUTSIDE);
        due(11, "what -1", x.is(0, -1), OUTSIDE);
        due(11, "cell 9", x.is(9, 2), UNKNOWN);
        due(11, "cell -1", x.is(-1, 0), UNKNOWN);
    }

    private static void coverAndBare() {
        ClayFort x = of("p33" + "0".repeat(9) + ";g002;g200;g200;g120");
        due(12, "cover 0", x.cover(0), 0);
        due(12, "cover 1", x.cover(1), bits(0));
        due(12, "cover 2", x.cover(2), bits(0));
        due(12, "cover 3", x.cover(3), 0);
        due(13, "bare", x.bare(), bits(0, 3));
        x.hush(0, true);
        due(12, "a silent one covers", x.cover(1), bits(0));
        due(13, "a silent one counts", x.bare(), bits(0, 3));
        x.charge(1, 2);
        due(12, "not one in the same cell", x.cover(2), bits(0));
        due(12, "back", x.cover(0), bits(1));
        x.haul(3, 1);
        due(12, "one between", x.cover(1), 0);
        due(12, "the one between", x.cover(3), bits(0, 1));
        due(13, "bare", x.bare(), bits(0, 1, 2));
        due(12, "gun 4", x.cover(4), UNKNOWN);
        due(12, "gun -1", x.cover(-1), UNKNOWN);
        x.charge(3, 1);
        due(13, "none is bare", x.bare(), 0);
        due(13, "no ground", new ClayFort().bare(), STATE);
    }

    private static void dig() {
        ClayFort x = of(SMALL);
        due(14, "not begun", x.dig(1), STATE);
        due(14, "water", x.dig(3), STATE);
        due(14, "in column 0", x.dig(0), 1);
        due(14, "next to it", x.dig(1), 2);
        due(14, "dug already", x.dig(1), 0);
        due(14, "shot", x.dig(4), STATE);
        due(14, "a gun's cell", x.dig(8), STATE);
        due(14, "dug", x.many(3), 2);
        due(14, "cell 9", x.dig(9), UNKNOWN);
        due(14, "cell -1", x.dig(-1), UNKNOWN);
        // What is dug is refused as any other.
        x.soak(1, 0);
        due(14, "dug, but water", x.dig(1), STATE);
        due(14, "next to it all the same", x.dig(2), 3);
        x.soak(1, 5);
        due(14, "dug, soil again", x.dig(1), 0);
        x.charge(0, 2);
        due(14, "dug, but shot", x.dig(0), STATE);
        x.hush(0, true);
        due(14, "silent", x.dig(0), 0);
        due(14, "below a dug one", x.dig(4), 4);
        // The end of a row is not next to the begin of the next one.
        x = of("p32111111;g010");
        x.dig(0);
        x.dig(1);
        x.dig(2);
        x.haul(0, 1);
        due(14, "below 1", x.dig(4), 1);
        x = of("p23111111;g000");
        due(14, "column 0, row 2", x.dig(4), 1);
        due(14, "not next to 4", x.dig(3), STATE);
        due(14, "right of 4", x.dig(5), 1);
        due(14, "above 5", x.dig(3), 1);
        due(14, "above 3", x.dig(1), 1);
    }

    private static void fill() {
        ClayFort x = of(SMALL);
        due(15, "none", x.fill(), 0);
        x.dig(0);
        x.dig(1);
        x.dig(1);
        due(15, "two", x.fill(), 2);
        due(15, "not dug", x.is(0, 1), 0);
        due(15, "many", x.many(3), 0);
        due(15, "again as heavy", x.dig(0), 1);
        due(15, "no ground", new ClayFort().fill(), STATE);
    }

    private static void trench() {
        ClayFort x = of(OPEN);
        trenchIs(x, 0, 0, 0, 0);
        trenchIs(x, 1, 0, 0, 1, 0);
        trenchIs(x, 2, 1, 1, 2, 0, 1);
        trenchIs(x, 3, 2, 1, 3, 5, 6, 1);
        trenchIs(x, 2, 2, 1, 2, 0, 1, 0, 1);
        x.dig(0);
        trenchIs(x, 1, 2, 1, 2, 0, 1, 0, 1);
        x.hush(0, true);
        trenchIs(x, 1, 0, 0, 2, 0, 1, 0, 1);
        x.hush(0, false);
        trenchIsWrong(x, 0, 1);
        trenchIsWrong(x, 0, 1, 0);
        trenchIsWrong(x, 1, 0, 0);
        trenchIsWrong(x, 2, 5, 6, 7);
        trenchIsWrong(x, 1, 0, 2);
        trenchIsWrong(x, 5, 0, 1, 2, 3, 4, 5);
        trenchIsWrong(x, 1, 5, 4);
        trenchIsWrong(x, 1, 0, 6);
        x.soak(0, 0);
        trenchIsWrong(x, 0, 0, 1);
        // Two guns, of whom one shoots at each end.
        x = of("p24" + "2".repeat(8) + ";g100;g120");
        x.charge(0, 1);
        trenchIs(x, 8, 2, 1, 4, 0, 2, 4, 6);
        x.charge(1, 1);
        trenchIs(x, 8, 4, 3, 4, 0, 2, 4, 6);
        trenchIs(x, 4, 2, 2, 2, 4, 6);
        // As many as may be told.
        int[] to = new int[40];
        for (int k = 0; k < 40; k++) {
            to[k] = k % 2 * 2;
        }
        trenchIs(x, 4, 40, 3, 2, to);
    }

    private static void trenchRefused() {
        ClayFort x = new ClayFort();
        due(16, "sheet 4", x.trench(4, 3, 0, 0, 0), UNKNOWN);
        due(16, "lane 3", x.trench(0, 3, 0, 0, 0), OUTSIDE);
        due(16, "lane -1", x.trench(0, -1, 0, 0, 0), OUTSIDE);
        due(16, "n 41", x.trench(0, 0, 0, 41, 0), OUTSIDE);
        due(16, "n -1", x.trench(0, 0, 0, -1, 0), OUTSIDE);
        due(16, "what 5", x.trench(0, 0, 0, 0, 5), OUTSIDE);
        due(16, "what -1", x.trench(0, 0, 0, 0, -1), OUTSIDE);
        due(16, "no ground", x.trench(0, 0, 0, 40, 4), STATE);
        put(x, 3, 0, SMALL);
        due(16, "nothing", x.trench(0, 0, 9, 0, 0), NULL);
        x.sheet(0, 1, 3);
        due(16, "cast ahead of index", x.trench(0, 0, 9, 0, 0), CAST);
        due(16, "cast", x.trench(0, 2, 0, 0, 0), CAST);
        due(16, "i 4", x.trench(0, 1, 4, 0, 0), INDEX);
        due(16, "i -1", x.trench(0, 1, -1, 0, 0), INDEX);
        due(16, "one beyond", x.trench(0, 1, 1, 3, 0), INDEX);
        due(16, "at the end", x.trench(0, 1, 3, 0, 0), 0);
        due(16, "far from", x.trench(0, 1, TOP, 40, 0), INDEX);
        x.put(0, 0, 1);
        x.put(0, 2, 9);
        due(16, "no cell, though the first is wrong", x.trench(0, 1, 0, 3, 1), UNKNOWN);
        due(16, "it is not among these", x.trench(0, 1, 0, 2, 1), 0);
        x.put(0, 2, -1);
        due(16, "no cell", x.trench(0, 1, 0, 3, 0), UNKNOWN);
        due(16, "refused, no fault", x.fault(), 0);
    }

    // ---- 3 ways

    private static void sap() {
        ClayFort x = of(SMALL);
        sapIs(x, 0, 1, 0);
        sapIs(x, 2, 6, 0, 1, 2);
        sapIs(x, 6, 6, 6);
        sapIs(x, 3, NONE);
        sapIs(x, 4, NONE);
        sapIs(x, 8, NONE);
        x.hush(0, true);
        sapIs(x, 4, 7, 0, 1, 4);
        sapIs(x, 7, 13, 6, 7);
        sapIs(x, 5, 11, 0, 1, 2, 5);
        x = of(SMALL);
        x.hush(0, true);
        x.dig(0);
        x.dig(1);
        sapIs(x, 5, 8, 0, 1, 2, 5);
        sapIs(x, 7, 11, 0, 1, 4, 7);
        sapIs(x, 0, 0, 0);
        // Dug, but water: no way goes there.
        x.soak(1, 0);
        sapIs(x, 4, 17, 6, 7, 4);
        due(17, "k -3", x.sap(0, -3), OUTSIDE);
        due(17, "k 36", x.sap(0, 36), OUTSIDE);
        due(17, "cell 9", x.sap(9, 36), UNKNOWN);
        due(17, "cell -1", x.sap(-1, 0), UNKNOWN);
        // A way may wind through the whole ground.
        x = of("p66" + "111111" + "000001" + "011111" + "010000" + "011111" + "000009" + ";g050");
        sapIs(x, 35, 27, 0, 1, 2, 3, 4, 5, 11, 17, 16, 15, 14, 13, 19, 25, 26, 27, 28, 29, 35);
    }

    private static void sapTies() {
        // As many nights: then the fewest cells.
        ClayFort x = of("p33" + "111" + "119" + "311" + ";g020");
        x.haul(0, 8);
        x.charge(0, 0);
        sapIs(x, 7, 3, 3, 4, 7);
        x.soak(6, 2);
        sapIs(x, 7, 3, 6, 7);
        // Nights and cells alike: the first as a row.
        x = of("p44" + "1".repeat(16) + ";g330");
        sapIs(x, 1, 2, 0, 1);
        sapIs(x, 5, 2, 4, 5);
        x.soak(4, 9);
        sapIs(x, 5, 3, 0, 1, 5);
        x.soak(0, 9);
        sapIs(x, 5, 3, 8, 9, 5);
        sapIs(x, 6, 4, 8, 9, 5, 6);
        sapIs(x, 2, 5, 8, 9, 5, 1, 2);
        x.soak(4, 1);
        sapIs(x, 2, 4, 4, 5, 1, 2);
        // Up is ahead of left, left of right, right of down.
        x = of("p34" + "900" + "111" + "111" + "111" + ";g100");
        x.charge(0, 0);
        x.soak(3, 0);
        x.soak(9, 0);
        sapIs(x, 5, 4, 6, 7, 4, 5);
        // Dug cells cost no night, but count as cells.
        x = of("p33" + "111" + "111" + "111" + ";g220");
        x.dig(0);
        x.dig(1);
        x.dig(2);
        sapIs(x, 2, 0, 0, 1, 2);
        x.dig(3);
        x.dig(4);
        x.dig(5);
        sapIs(x, 5, 0, 3, 4, 5);
        sapIs(x, 7, 1, 3, 4, 7);
    }

    private static void rush() {
        ClayFort x = of(SMALL);
        rushIs(x, 4, 1, 7, 0, 1, 4);
        rushIs(x, 7, 1, 13, 6, 7);
        rushIs(x, 5, 1, 11, 0, 1, 2, 5);
        rushIs(x, 3, NONE, NONE);
        rushIs(x, 8, NONE, NONE);
        due(18, "k -4", x.rush(0, -4), OUTSIDE);
        due(18, "k 36", x.rush(0, 36), OUTSIDE);
        due(18, "cell 9", x.rush(9, 36), UNKNOWN);
        due(18, "cell -1", x.rush(-1, 0), UNKNOWN);
        x.hush(0, true);
        rushIs(x, 4, 0, 7, 0, 1, 4);
        // Fewer shot go ahead of fewer nights.
        x = of("p53" + "11111" + "91199" + "99999" + ";g201");
        rushIs(x, 4, 0, 55, 10, 11, 12, 13, 14, 9, 4);
        x.soak(12, 0);
        rushIs(x, 4, 3, 30, 5, 6, 7, 8, 9, 4);
    }

    private static void silence() {
        ClayFort x = of("p33" + "1".repeat(9) + ";g001;g200;m220");
        due(19, "none is needed", x.silence(6), 0);
        due(19, "one", x.silence(3), bits(0));
        due(19, "a gun's cell", x.silence(0), NONE);
        x.charge(1, 1);
        x.charge(2, 1);
        due(19, "all", x.silence(4), bits(0, 1, 2));
        x.hush(1, true);
        due(19, "all that are not silent", x.silence(4), bits(0, 2));
        x.soak(7, 0);
        x.soak(3, 0);
        due(19, "no way at all", x.silence(4), NONE);
        due(19, "cell 9", x.silence(9), UNKNOWN);
        due(19, "cell -1", x.silence(-1), UNKNOWN);
        // Either opens a way: the least set. The fewest go ahead of a lesser set of more.
        x = of("p25" + "00" + "11" + "01" + "11" + "00" + ";g001;g041");
        due(19, "either", x.silence(5), bits(0));
        x = of("p25" + "00" + "11" + "01" + "11" + "00" + ";g001;g001;g041");
        due(19, "one ahead of two", x.silence(5), bits(2));
        x = of("p26" + "011110101111" + ";g101;g101;g051");
        due(19, "two of three", x.silence(3), bits(0, 1));
        due(19, "one", x.silence(9), bits(2));
    }

    private static void breachAndDay() {
        ClayFort x = of("p44" + "1111" + "1911" + "1111" + "1111" + ";g330;g110;g330");
        due(20, "next to 15", x.breach(0), 3);
        due(20, "next to 5", x.breach(1), 1);
        due(20, "another there", x.breach(2), 3);
        due(21, "day", x.day(0), 1);
        due(21, "its nights", x.day(1), 1);
        x.haul(1, 0);
        due(20, "at the edge", x.breach(1), 1);
        x.dig(4);
        due(20, "dug", x.breach(1), 0);
        due(21, "its nights", x.day(1), 0);
        x.haul(1, 15);
        due(21, "of several the least", x.day(0), 0);
        due(21, "its nights", x.day(1), 3);
        x.charge(0, 1);
        due(20, "shot all around", x.breach(1), NONE);
        due(21, "none", x.day(0), NONE);
        due(21, "none", x.day(1), NONE);
        x.hush(0, true);
        due(20, "silent", x.breach(0), 3);
        due(20, "gun 3", x.breach(3), UNKNOWN);
        due(20, "gun -1", x.breach(-1), UNKNOWN);
        due(21, "what 2", x.day(2), OUTSIDE);
        due(21, "what -1", new ClayFort().day(-1), OUTSIDE);
        due(21, "no ground", new ClayFort().day(1), STATE);
        // A cell on the slant, or across the edge, is not next to one.
        x = of("p33" + "100" + "100" + "100" + ";g110;g200");
        due(20, "next to 4", x.breach(0), 1);
        due(20, "next to 2, not to 3", x.breach(1), NONE);
    }

    private static void post() {
        // From 0, 1 (and others) it would shut the only way to 4, and is too far off to see 4 itself.
        ClayFort x = of("p52" + "11111" + "00001" + ";g010");
        due(22, "shuts the way", x.post(4, 0), 0);
        due(22, "no nights", x.post(4, 1), NONE);
        due(22, "of a cell beside all", x.post(0, 0), 3);
        due(22, "it stays open", x.post(0, 1), 1);
        // Each cell sees it, or a gun stands there.
        x = of("p221111;g000");
        due(22, "no such cell", x.post(3, 0), NONE);
        due(22, "no such nights", x.post(3, 1), NONE);
        // One more gun may stop another's sight and open a way; here there is no other place for it.
        x = of("p52" + "10000" + "00000" + ";g404;g210;g310;g410");
        due(22, "shot now", x.sap(0, -2), NONE);
        due(22, "the one place", x.post(0, 0), 3);
        due(22, "opens it", x.post(0, 1), 1);
        // Any place from which the way stays shut takes more nights than that.
        x.haul(1, 8);
        due(22, "none at all is more", x.post(0, 0), 7);
        due(22, "none at all", x.post(0, 1), NONE);
        due(22, "cell 10", x.post(10, 2), UNKNOWN);
        due(22, "cell -1", x.post(-1, 0), UNKNOWN);
        due(22, "what 2", x.post(0, 2), OUTSIDE);
        due(22, "what -1", x.post(0, -1), OUTSIDE);
        due(22, "no gun is left behind", x.many(0), 4);
    }

    // ---- 4 what was shot at

    private static void readingAndBack() {
        ClayFort x = of(SMALL);
        for (int k = 0; k < 8; k++) {
            due(23, "reading " + k, x.reading(k, k % 2 == 0), k);
        }
        due(23, "full", x.reading(0, true), FULL);
        due(23, "unknown ahead of full", x.reading(9, true), UNKNOWN);
        due(23, "cell -1", x.reading(-1, true), UNKNOWN);
        due(24, "9", x.back(9), OUTSIDE);
        due(24, "-1", x.back(-1), OUTSIDE);
        due(24, "none", x.back(0), 8);
        due(24, "three", x.back(3), 5);
        due(24, "six", x.back(6), OUTSIDE);
        due(23, "the next number", x.reading(4, true), 5);
        due(24, "all", x.back(6), 0);
        due(24, "one more", x.back(1), OUTSIDE);
        due(23, "from the first on", x.reading(4, true), 0);
        due(24, "the last ones are taken", x.many(4), 1);
    }

    private static void reaches() {
        ClayFort x = of("p62" + "1".repeat(12) + ";g004;h012");
        due(25, "all", x.reaches(0), 1023);
        x.reading(3, true);
        due(25, "3 and more", x.reaches(0), 1016);
        due(25, "is still", x.ofGun(0, 2), 4);
        x.reading(5, false);
        due(25, "3 or 4", x.reaches(0), 24);
        x.reading(8, true);
        due(25, "of a howitzer", x.reaches(1), 1022);
        due(25, "3 or 4, by the other", x.reaches(0), 24);
        due(25, "gun 2", x.reaches(2), UNKNOWN);
        due(25, "gun -1", x.reaches(-1), UNKNOWN);
        x.reading(3, false);
        due(25, "none", x.reaches(0), 0);
        x.back(1);
        due(25, "again", x.reaches(0), 24);
        x.hush(0, true);
        due(25, "a silent one does not shoot", x.reaches(0), 0);
        x.back(3);
        x.reading(3, false);
        due(25, "whatever it reaches", x.reaches(0), 1023);
    }

    private static void kinds() {
        ClayFort x = of("p62" + "1".repeat(12) + ";h002");
        due(26, "all", x.kinds(0), 7);
        x.reading(2, true);
        due(26, "a gun, a howitzer", x.kinds(0), 3);
        x.reading(3, true);
        due(26, "a howitzer", x.kinds(0), 2);
        due(26, "is still", x.ofGun(0, 0), 1);
        x.back(2);
        x.reading(2, false);
        due(26, "a mortar", x.kinds(0), 4);
        x.reading(1, false);
        due(26, "none", x.kinds(0), 0);
        due(26, "gun 1", x.kinds(1), UNKNOWN);
        due(26, "gun -1", x.kinds(-1), UNKNOWN);
    }

    private static void haunts() {
        ClayFort x = of("p33" + "0".repeat(9) + ";g001;g220");
        due(27, "all", x.haunts(0), 511);
        x.reading(1, true);
        due(27, "about 1", x.haunts(0), bits(0, 2, 3, 4, 5));
        x.reading(3, true);
        due(27, "about 3 too", x.haunts(0), bits(0, 4));
        due(27, "the other", x.haunts(1), 511);
        x.reading(8, false);
        due(27, "far from 8", x.haunts(0), bits(0));
        due(27, "stands still", x.ofGun(0, 1), 0);
        // One that sees nothing is told by whose sight it stops.
        x = of("p52" + "0".repeat(10) + ";g009;g410");
        x.reading(3, false);
        due(27, "between", x.haunts(1), bits(1, 2));
        x.hush(1, true);
        due(27, "a silent one too", x.haunts(1), bits(1, 2));
        x.reading(1, true);
        x.reading(2, false);
        due(27, "right beside it", x.haunts(1), bits(1));
        due(27, "gun 2", x.haunts(2), ClayFort.LOST);
        due(27, "gun -1", x.haunts(-1), ClayFort.LOST);
    }

    private static void odds() {
        ClayFort x = of("p33" + "1".repeat(9) + ";g001;g200;m220");
        due(28, "always: upper", x.odds(6, 0), 1);
        due(28, "always: lower", x.odds(6, 1), 1);
        due(28, "if 0 is silent", x.odds(3, 0), 1);
        due(28, "of two", x.odds(3, 1), 2);
        due(28, "never: upper", x.odds(0, 0), 0);
        due(28, "never: lower", x.odds(0, 1), 1);
        x.charge(1, 1);
        x.charge(2, 1);
        due(28, "one of eight", x.odds(4, 0), 1);
        due(28, "one of eight", x.odds(4, 1), 8);
        x.hush(2, true);
        due(28, "a silent one stays so", x.odds(4, 1), 4);
        due(28, "silence is as it was", x.ofGun(0, 4) + 2 * x.ofGun(1, 4) + 4 * x.ofGun(2, 4), 4);
        due(28, "which 2", x.odds(4, 2), ClayFort.LOST);
        due(28, "which -1", x.odds(4, -1), ClayFort.LOST);
        due(28, "cell 9", x.odds(9, 0), ClayFort.LOST);
        due(28, "cell -1", x.odds(-1, 0), ClayFort.LOST);
        x = of("p25" + "00" + "11" + "01" + "11" + "00" + ";g001;g041");
        due(28, "either of two: upper", x.odds(5, 0), 3);
        due(28, "either of two: lower", x.odds(5, 1), 4);
        x = of("p25" + "00" + "11" + "01" + "11" + "00" + ";g001;g001;g041");
        due(28, "five of eight: upper", x.odds(5, 0), 5);
        due(28, "five of eight: lower", x.odds(5, 1), 8);
        x = of("p25" + "00" + "11" + "01" + "11" + "00" + ";g001;g001;g001;g041");
        due(28, "nine of sixteen", x.odds(5, 0) * 100 + x.odds(5, 1), 916);
    }

    // ---- 5 sheets, parts

    private static void sheet() {
        ClayFort x = new ClayFort();
        due(29, "new", x.sheet(0, 0, 60), 1);
        due(29, "its last", x.put(0, 59, 7), 1);
        due(29, "anew", x.sheet(0, 1, 60), 1);
        due(29, "0 again", x.cell(0, 59, 1), 0);
        due(29, "none at all", x.sheet(3, 2, 0), 1);
        due(29, "it is something", x.lose(3), 1);
        due(29, "61", x.sheet(0, 0, 61), OUTSIDE);
        due(29, "highest", x.sheet(0, 0, TOP), OUTSIDE);
        due(29, "lane 3", x.sheet(0, 3, -1), OUTSIDE);
        due(29, "lane -1", x.sheet(0, -1, 1), OUTSIDE);
        due(29, "-1", x.sheet(0, 0, -1), SIZE);
        due(29, "lowest", x.sheet(0, 0, LOW), SIZE);
        due(29, "sheet 4", x.sheet(4, 3, 61), UNKNOWN);
        due(29, "sheet -1", x.sheet(-1, 0, 1), UNKNOWN);
        due(29, "as it was", x.cell(0, 59, 1), 0);
    }

    private static void lose() {
        ClayFort x = new ClayFort();
        due(30, "nothing", x.lose(2), 0);
        x.sheet(2, 1, 3);
        due(30, "something", x.lose(2), 1);
        due(30, "nothing again", x.lose(2), 0);
        due(30, "null", x.cell(2, 0, 0), ClayFort.LOST);
        due(30, "null", x.fault(), 1);
        due(30, "no call that names faults", x.lose(2), 0);
        due(30, "null still", x.fault(), 1);
        due(30, "sheet 4", x.lose(4), UNKNOWN);
        due(30, "sheet -1", x.lose(-1), UNKNOWN);
    }

    private static void put() {
        ClayFort x = new ClayFort();
        due(31, "null", x.put(0, 9, 1), NULL);
        for (int lane = 0; lane < 3; lane++) {
            x.sheet(lane, lane, 2);
            due(31, "put", x.put(lane, 1, 0x12345 + 0x80), 1);
            due(31, "i 2", x.put(lane, 2, 1), INDEX);
            due(31, "i -1", x.put(lane, -1, 1), INDEX);
            due(31, "i lowest", x.put(lane, LOW, 1), INDEX);
            due(31, "the first is still 0", x.cell(lane, 0, lane), 0);
        }
        due(31, "a byte", x.cell(0, 1, 0), (byte) 0xC5);
        due(31, "a short", x.cell(1, 1, 1), 0x23C5);
        due(31, "an int", x.cell(2, 1, 2), 0x123C5);
        x.put(0, 0, -129);
        x.put(1, 0, 32768);
        x.put(2, 0, LOW);
        due(31, "a byte", x.cell(0, 0, 0), 127);
        due(31, "a short", x.cell(1, 0, 1), -32768);
        due(31, "an int", x.cell(2, 0, 2), LOW);
        due(31, "sheet 4", x.put(4, 0, 1), UNKNOWN);
        due(31, "sheet -1", x.put(-1, 0, 1), UNKNOWN);
    }

    private static void cellIsLost(ClayFort x, int k, int i, int lane, int fault) {
        due(32, "cell " + k + " " + i + " " + lane, x.cell(k, i, lane), ClayFort.LOST);
        due(32, "its fault", x.fault(), fault);
    }

    private static void cell() {
        ClayFort x = new ClayFort();
        x.sheet(0, 1, 3);
        x.put(0, 2, -5);
        due(32, "cell", x.cell(0, 2, 1), -5);
        due(32, "no fault", x.fault(), 0);
        cellIsLost(x, 0, 3, 1, 3);
        cellIsLost(x, 4, 0, 0, 0);
        cellIsLost(x, 0, -1, 1, 3);
        cellIsLost(x, 0, 0, 3, 0);
        cellIsLost(x, 0, 9, 0, 2);
        cellIsLost(x, 0, 0, -1, 0);
        cellIsLost(x, 0, 0, 2, 2);
        cellIsLost(x, -1, 0, 0, 0);
        cellIsLost(x, 1, 9, 2, 1);
    }

    private static void copy() {
        ClayFort x = new ClayFort();
        row(x, 0, 1, 2, 3, 4, 5);
        x.sheet(1, 2, 3);
        due(33, "all", x.copy(0, 2, 1, 0, 3), 3);
        due(33, "copied", x.cell(1, 0, 2) * 100 + x.cell(1, 1, 2) * 10 + x.cell(1, 2, 2), 345);
        due(33, "to the right in the same", x.copy(0, 0, 0, 1, 4), 4);
        String is = "";
        for (int k = 0; k < 5; k++) {
            is += x.cell(0, k, 2);
        }
        due(33, "as they were", Integer.parseInt(is), 11234);
        due(33, "to the left in the same", x.copy(0, 1, 0, 0, 4), 4);
        due(33, "as they were", x.cell(0, 0, 2) * 10 + x.cell(0, 3, 2), 14);
        due(33, "none, at the ends", x.copy(0, 5, 1, 3, 0), 0);
        due(33, "i beyond", x.copy(0, 6, 1, 0, 0), INDEX);
        due(33, "j beyond", x.copy(0, 0, 1, 4, 0), INDEX);
        due(33, "i -1", x.copy(0, -1, 1, 0, 1), INDEX);
        due(33, "j -1", x.copy(0, 0, 1, -1, 1), INDEX);
        due(33, "n -1", x.copy(0, 0, 1, 0, -1), INDEX);
        due(33, "beyond the first", x.copy(1, 1, 0, 0, 3), INDEX);
        due(33, "beyond the other", x.copy(0, 0, 1, 1, 3), INDEX);
        due(33, "far beyond", x.copy(0, 1, 1, 1, TOP), INDEX);
        due(33, "nothing changed", x.cell(1, 2, 2), 5);
        due(33, "the first is nothing", x.copy(2, 0, 0, 0, -1), NULL);
        due(33, "the other is nothing", x.copy(0, 0, 2, 0, -1), NULL);
        x.sheet(2, 1, 3);
        due(33, "unlike lanes ahead of index", x.copy(0, 9, 2, 0, -1), CAST);
        due(33, "unlike lanes", x.copy(2, 0, 0, 0, 1), CAST);
        due(33, "sheet 4", x.copy(4, 0, 0, 0, 0), UNKNOWN);
        due(33, "other -1", x.copy(3, 0, -1, 0, 0), UNKNOWN);
        due(33, "no fault", x.fault(), 0);
    }

    private static void tell() {
        ClayFort x = of("p221111;g003;h004;m005");
        due(34, "a gun", x.tell(0), 3);
        due(37, "1", x.trace(), 1);
        due(34, "a howitzer", x.tell(1), 104);
        due(37, "1 2 1", x.trace(), (1 * 31 + 2) * 31 + 1);
        x = of("p221111;g003;h004;m005");
        due(34, "a mortar", x.tell(2), 110);
        due(37, "3 2 1 1", x.trace(), ((3 * 31 + 2) * 31 + 1) * 31 + 1);
        due(34, "gun 3", x.tell(3), UNKNOWN);
        due(34, "gun -1", x.tell(-1), UNKNOWN);
        due(37, "as it was", x.trace(), ((3 * 31 + 2) * 31 + 1) * 31 + 1);
    }

    private static void fire() {
        ClayFort x = of("p221111;g003;h004;m005;g000");
        due(35, "a gun", x.fire(0), 0);
        due(37, "4", x.trace(), 4);
        due(35, "a howitzer", x.fire(1), 1);
        due(37, "4 4", x.trace(), 4 * 31 + 4);
        due(35, "a mortar", x.fire(2), 90);
        due(37, "4 4 5", x.trace(), (4 * 31 + 4) * 31 + 5);
        due(35, "the last", x.fire(3), 3);
        due(35, "gun 4", x.fire(4), UNKNOWN);
        due(35, "gun -1", x.fire(-1), UNKNOWN);
        int trace = ((4 * 31 + 4) * 31 + 5) * 31 + 4;
        for (int n = 0; n < 20; n++) {
            x.fire(2);
            trace = trace * 31 + 5;
        }
        due(37, "it wraps", x.trace(), trace);
    }

    private static void as() {
        ClayFort x = of("p221111;g003;h004;m005");
        for (int g = 0; g < 3; g++) {
            for (int kind = 0; kind < 3; kind++) {
                due(36, "gun " + g + " as " + kind, x.as(g, kind), kind <= g ? 1 : CAST);
                due(36, "its fault", x.fault(), kind <= g ? 0 : 2);
            }
        }
        x.as(0, 2);
        due(36, "kind 3", x.as(0, 3), OUTSIDE);
        due(36, "refused, no fault", x.fault(), 0);
        due(36, "kind -1", x.as(0, -1), OUTSIDE);
        due(36, "gun 3", x.as(3, 3), UNKNOWN);
        due(36, "gun -1", x.as(-1, 0), UNKNOWN);
    }

    private static void fault() {
        ClayFort x = of(SMALL);
        x.put(0, 0, 0);
        due(38, "null of put", x.fault(), 1);
        x.clay(99);
        x.tell(0);
        x.lose(0);
        x.dig(99);
        x.fault();
        due(38, "null still", x.fault(), 1);
        x.trench(3, 1, 0, 0, 0);
        due(38, "cast of trench", x.fault(), 2);
        x.trench(3, 0, 0, 0, 0);
        due(38, "none of trench", x.fault(), 0);
        x.sheet(0, 0, -1);
        due(38, "size of sheet", x.fault(), 4);
        x.sheet(0, 0, 61);
        due(38, "refused by sheet", x.fault(), 0);
        x.sheet(0, 0, -1);
        x.sheet(0, 0, 1);
        due(38, "none of sheet", x.fault(), 0);
        x.put(0, 1, 0);
        due(38, "index of put", x.fault(), 3);
        x.put(4, 1, 0);
        due(38, "refused by put", x.fault(), 0);
        x.put(0, 1, 0);
        x.put(0, 0, 0);
        due(38, "none of put", x.fault(), 0);
        x.copy(0, 0, 1, 0, 0);
        due(38, "null of copy", x.fault(), 1);
        x.copy(0, 0, 4, 0, 0);
        due(38, "refused by copy", x.fault(), 0);
        x.copy(0, 0, 0, 1, 1);
        due(38, "index of copy", x.fault(), 3);
        x.copy(0, 0, 0, 0, 1);
        due(38, "none of copy", x.fault(), 0);
        x.as(0, 1);
        due(38, "cast of as", x.fault(), 2);
        x.as(0, 0);
        due(38, "none of as", x.fault(), 0);
        x.ground(0, 0, 0, -1);
        due(38, "size of ground", x.fault(), 4);
        x.ground(0, 0, 0, 1);
        due(38, "none of ground", x.fault(), 0);
        x.ground(0, 0, 0, 2);
        due(38, "index of ground", x.fault(), 3);
        x.ground(0, 3, 0, 2);
        due(38, "refused by ground", x.fault(), 0);
    }

    private static void many() {
        ClayFort x = of("p24" + "1".repeat(8) + ";g110;g110;g110");
        x.dig(0);
        x.dig(2);
        x.reading(0, false);
        int[] due = {3, 2, 4, 2, 1};
        for (int what = 0; what < 5; what++) {
            due(39, "many " + what, x.many(what), due[what]);
        }
        due(39, "what 5", x.many(5), OUTSIDE);
        due(39, "what -1", x.many(-1), OUTSIDE);
        due(39, "what 5, no ground", new ClayFort().many(5), OUTSIDE);
    }
}
