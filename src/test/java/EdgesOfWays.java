/** The edges of section 3 and of promises 17 to 22. */
public final class EdgesOfWays {
    private static final int UNKNOWN = Edges.UNKNOWN, OUTSIDE = Edges.OUTSIDE, STATE = Edges.STATE, NONE = Edges.NONE;
    private static final String ONES = "1".repeat(36);

    /*
     *  1 1 1 1 1     The gun in 7 (reach 1) sees all of 1 2 3 6 8 11 12 13: none gets by it unshot.
     *  1 1 1 1 1
     *  1 1 1 1 1
     */
    private static final String BARRED = "p53" + ONES.substring(0, 15) + ";g211";

    /** A way of 21 cells: down, up and down again; a gun of reach 0 in 2, water elsewhere. */
    private static final String LONG = "p66" + "990999" + "090909".repeat(4) + "099909" + ";g200";
    private static final int[] LONG_WAY = {
        0, 1, 7, 13, 19, 25, 31, 32, 33, 27, 21, 15, 9, 3, 4, 5, 11, 17, 23, 29, 35,
    };

    /*
     *  0 0           5 is next to 3 and 7; a gun of reach 1 in 0 sees 2 and 3, one in 8 sees 6 and 7.
     *  1 1
     *  0 1
     *  1 1
     *  0 0
     */
    private static final String TWO_ENDS = "p25" + "00" + "11" + "01" + "11" + "00";

    /** Two ways to 2: 0 1 2, or all around by 30 .. 35, 29 .. 5, 4, 3. From 6 the first is shot, from 13 and 15 both. */
    private static final String TWO_WAYS = "p66" + "111111" + "000001".repeat(4) + "111111";

    public static void main(String[] args) {
        sapOfNone();
        sapOfOneCell();
        sapLongest();
        sapNumbers();
        sapUnshot();
        sapFewestNights();
        sapFewestCells();
        sapFirstAsARow();
        rushOfNone();
        rushNumbers();
        rushFewestShot();
        rushFewestNights();
        rushFewestCells();
        rushFirstAsARow();
        silenceOfNone();
        silenceOfFewest();
        silenceOfLeast();
        silenceBesides();
        breachOfEachSide();
        breachByMoreCells();
        breachOfNone();
        day();
        dayOfSeveral();
        postAnotherCell();
        postOutOfSight();
        postMost();
        postNoneIsMore();
        postOfNone();
        postLeavesNothing();
        Edges.end("EdgesOfWays");
    }

    // ---- helpers

    private static ClayFort open(int wide, int high) {
        return Edges.of("p" + wide + high + ONES.substring(0, wide * high) + ";g" + (wide - 1) + (high - 1) + "0");
    }

    private static void soakAll(ClayFort x, int v, int... cells) {
        for (int c : cells) {
            x.soak(c, v);
        }
    }

    private static void sapIs(ClayFort x, int nights, int... way) {
        int c = way[way.length - 1];
        Edges.due("nights of sap " + c, x.sap(c, -2), nights);
        Edges.due("cells of sap " + c, x.sap(c, -1), way.length);
        for (int k = 0; k < way.length; k++) {
            Edges.due("sap " + c + ", cell " + k, x.sap(c, k), way[k]);
        }
        for (int k = way.length; k <= 35; k++) {
            Edges.due("sap " + c + ", no cell " + k, x.sap(c, k), NONE);
        }
    }

    private static void noSap(ClayFort x, int c) {
        for (int k : new int[] {-2, -1, 0, 1, 35}) {
            Edges.due("no sap " + c + ", " + k, x.sap(c, k), NONE);
        }
    }

    private static void rushIs(ClayFort x, int shot, int nights, int... way) {
        int c = way[way.length - 1];
        Edges.due("shot of rush " + c, x.rush(c, -3), shot);
        Edges.due("nights of rush " + c, x.rush(c, -2), nights);
        Edges.due("cells of rush " + c, x.rush(c, -1), way.length);
        for (int k = 0; k < way.length; k++) {
            Edges.due("rush " + c + ", cell " + k, x.rush(c, k), way[k]);
        }
        for (int k = way.length; k <= 35; k++) {
            Edges.due("rush " + c + ", no cell " + k, x.rush(c, k), NONE);
        }
    }

    private static void noRush(ClayFort x, int c) {
        for (int k : new int[] {-3, -2, -1, 0, 1, 35}) {
            Edges.due("no rush " + c + ", " + k, x.rush(c, k), NONE);
        }
    }

    // ---- sap

    private static void sapOfNone() {
        Edges.says("promise 17", "NONE: there is no such one, there is none");
        ClayFort x = Edges.of("p33" + "110" + "101" + "011" + ";g101;g220");
        noSap(x, 2);
        noSap(x, 1);
        noSap(x, 8);
        noSap(x, 5);
        x.hush(0, true);
        noSap(x, 1);
        sapIs(x, 1, 3);
        noSap(x, 7);
        x.soak(4, 1);
        sapIs(x, 3, 3, 4, 7);
        x.soak(3, 0);
        noSap(x, 7);
        // Nothing of the way that was found last is told.
        sapIs(x, 1, 0);
        noSap(x, 7);
    }

    private static void sapOfOneCell() {
        Edges.says("section 3", "the first in column 0, .. the last one it");
        ClayFort x = open(3, 6);
        for (int c = 0; c < 18; c += 3) {
            sapIs(x, 1, c);
            x.dig(c);
            sapIs(x, 0, c);
        }
    }

    private static void sapLongest() {
        Edges.says("promise 17", "CELL k of the row (0 .. 35)");
        ClayFort x = Edges.of(LONG);
        sapIs(x, 189, LONG_WAY);
        rushIs(x, 0, 189, LONG_WAY);
        ClayFort y = Edges.of(LONG);
        for (int c : LONG_WAY) {
            Edges.due("dig " + c, y.dig(c), 9);
        }
        sapIs(y, 0, LONG_WAY);
    }

    private static void sapNumbers() {
        Edges.says("promise 17", "UNKNOWN; OUTSIDE: k");
        ClayFort x = open(6, 6);
        Edges.due("k -3", x.sap(0, -3), OUTSIDE);
        Edges.due("k -2", x.sap(0, -2), 1);
        Edges.due("k 35", x.sap(0, 35), NONE);
        Edges.due("k 36", x.sap(0, 36), OUTSIDE);
        Edges.due("k 36, of none", x.sap(35, 36), OUTSIDE);
        Edges.due("k -3, of none", x.sap(35, -3), OUTSIDE);
        Edges.due("cell 34", x.sap(34, -1), 5);
        Edges.due("cell 35, a gun's", x.sap(35, -1), NONE);
        Edges.due("cell 36", x.sap(36, -1), UNKNOWN);
        Edges.due("cell -1", x.sap(-1, -1), UNKNOWN);
    }

    private static void sapUnshot() {
        Edges.says("section 3", "of the WAYS of which no CELL is SHOT");
        ClayFort x = Edges.of(BARRED);
        for (int c : new int[] {4, 9, 14, 1, 2, 3, 6, 8, 7}) {
            noSap(x, c);
        }
        sapIs(x, 1, 5);
        x.hush(0, true);
        sapIs(x, 5, 0, 1, 2, 3, 4);
        noSap(x, 7);
        x.hush(0, false);
        x.charge(0, 0);
        sapIs(x, 2, 5, 6);
        // The first cell is one of the way, too.
        x = Edges.of("p33" + ONES.substring(0, 9) + ";g001");
        sapIs(x, 4, 6, 7, 8, 5);
        x.haul(0, 3);
        for (int c : new int[] {2, 5, 8}) {
            Edges.due(c + " is not shot", x.shot(c), 0);
            noSap(x, c);
        }
    }

    private static void sapFewestNights() {
        Edges.says("section 3", "those of the fewest NIGHTS (though of more CELLS)");
        ClayFort x = open(3, 3);
        x.soak(1, 3);
        sapIs(x, 4, 3, 4, 5, 2);
        x.soak(0, 9);
        x.soak(4, 9);
        x.soak(1, 9);
        x.soak(3, 9);
        x.soak(6, 1);
        x.soak(7, 1);
        sapIs(x, 11, 6, 7, 4);
        x.soak(3, 1);
        sapIs(x, 10, 3, 4);
    }

    private static void sapFewestCells() {
        Edges.says("section 3", "of these those of the fewest CELLS");
        ClayFort x = open(3, 3);
        x.soak(1, 2);
        sapIs(x, 4, 0, 1, 2);
        for (int c : new int[] {0, 1, 2, 3, 4, 5}) {
            x.dig(c);
        }
        sapIs(x, 0, 0, 1, 2);
        sapIs(x, 0, 3, 4, 5);
        sapIs(x, 0, 3);
    }

    private static void sapFirstAsARow() {
        Edges.says("section 3", "of several the first as a row (SAP)");
        ClayFort x = open(4, 4);
        soakAll(x, 0, 4);
        sapIs(x, 3, 0, 1, 5);
        x.soak(4, 1);
        soakAll(x, 0, 8, 12);
        sapIs(x, 5, 4, 5, 6, 7, 11);
        x = open(4, 4);
        soakAll(x, 0, 0, 8, 12, 6);
        sapIs(x, 6, 4, 5, 1, 2, 3, 7);
        // A heavier cell early and a lighter one late come to the same.
        x.soak(1, 9);
        x.soak(11, 9);
        sapIs(x, 14, 4, 5, 1, 2, 3, 7);
        x.soak(11, 8);
        sapIs(x, 13, 4, 5, 9, 10, 11, 7);
        // To the left ahead of down; of two begins the upper one.
        x = open(4, 4);
        soakAll(x, 0, 5, 8, 12);
        sapIs(x, 4, 0, 1, 2, 6);
        x = open(3, 5);
        soakAll(x, 0, 6);
        sapIs(x, 3, 3, 4, 7);
        soakAll(x, 0, 3, 4);
        sapIs(x, 3, 9, 10, 7);
    }

    // ---- rush

    private static void rushOfNone() {
        Edges.says("promise 18", "NONE: there is no such one, there is none");
        ClayFort x = Edges.of("p33" + "110" + "101" + "011" + ";g104;g220");
        noRush(x, 2);
        noRush(x, 1);
        noRush(x, 8);
        noRush(x, 5);
        noRush(x, 7);
        rushIs(x, 1, 1, 0);
        x.soak(4, 1);
        rushIs(x, 3, 3, 3, 4, 7);
        x.soak(3, 0);
        noRush(x, 7);
    }

    private static void rushNumbers() {
        Edges.says("promise 18", "UNKNOWN; OUTSIDE: k");
        ClayFort x = open(6, 6);
        Edges.due("k -4", x.rush(0, -4), OUTSIDE);
        Edges.due("k -3", x.rush(0, -3), 0);
        Edges.due("k 35", x.rush(0, 35), NONE);
        Edges.due("k 36", x.rush(0, 36), OUTSIDE);
        Edges.due("k 36, of none", x.rush(35, 36), OUTSIDE);
        Edges.due("k -4, of none", x.rush(35, -4), OUTSIDE);
        Edges.due("cell 35, a gun's", x.rush(35, -3), NONE);
        Edges.due("cell 36", x.rush(36, -1), UNKNOWN);
        Edges.due("cell -1", x.rush(-1, -1), UNKNOWN);
        // All the reach there is: it sees 0 1 3 4 5, 7, 9 23, 32 of the way.
        x = Edges.of(LONG);
        x.charge(0, 9);
        rushIs(x, 9, 189, LONG_WAY);
        for (int k = 0; k < 20; k++) {
            x.hush(0, true);
        }
        rushIs(x, 0, 189, LONG_WAY);
    }

    private static void rushFewestShot() {
        Edges.says("section 3", "of all WAYS those with the fewest CELLS that are SHOT (though of more NIGHTS)");
        ClayFort x = Edges.of("p53" + "11111" + "99999" + "99999" + ";g201");
        rushIs(x, 0, 55, 10, 11, 12, 13, 14, 9, 4);
        rushIs(x, 1, 2, 0, 1);
        x.soak(12, 0);
        rushIs(x, 3, 46, 5, 6, 7, 8, 9, 4);
        x.hush(0, true);
        rushIs(x, 0, 31, 0, 1, 6, 7, 8, 3, 4);
    }

    private static void rushFewestNights() {
        Edges.says("section 3", "of these those of the fewest NIGHTS");
        ClayFort x = Edges.of(BARRED);
        rushIs(x, 3, 5, 0, 1, 2, 3, 4);
        x.soak(1, 9);
        rushIs(x, 3, 7, 10, 11, 12, 13, 14, 9, 4);
        x.soak(1, 4);
        rushIs(x, 3, 7, 10, 11, 12, 13, 14, 9, 4);
        // A dug cell that is shot takes no night, but is shot.
        x.hush(0, true);
        x.dig(0);
        x.dig(1);
        x.hush(0, false);
        rushIs(x, 3, 3, 0, 1, 2, 3, 4);
    }

    private static void rushFewestCells() {
        Edges.says("section 3", "of these those of the fewest CELLS");
        ClayFort x = Edges.of(BARRED);
        x.soak(1, 3);
        rushIs(x, 3, 7, 0, 1, 2, 3, 4);
    }

    private static void rushFirstAsARow() {
        Edges.says("section 3", "of several the first as a row (RUSH)");
        ClayFort x = Edges.of(BARRED);
        rushIs(x, 3, 6, 0, 1, 2, 3, 4, 9);
        x.soak(4, 2);
        rushIs(x, 3, 6, 10, 11, 12, 13, 14, 9);
        x.soak(14, 2);
        rushIs(x, 3, 7, 0, 1, 2, 3, 4, 9);
    }

    // ---- silence

    private static void silenceOfNone() {
        Edges.says("promise 19", "NONE");
        ClayFort x = Edges.of("p33" + "110" + "101" + "011" + ";g109;g220");
        Edges.due("water", x.silence(2), NONE);
        Edges.due("a gun's", x.silence(1), NONE);
        Edges.due("cut off", x.silence(7), NONE);
        x.hush(0, true);
        x.hush(1, true);
        Edges.due("a silent gun's", x.silence(1), NONE);
        Edges.due("cut off, all silent", x.silence(7), NONE);
        Edges.due("no gun needed", x.silence(0), 0);
        Edges.due("cell 9", x.silence(9), UNKNOWN);
        Edges.due("cell -1", x.silence(-1), UNKNOWN);
    }

    private static void silenceOfFewest() {
        Edges.says("section 3", "the fewest GUNS that are to be so that there is a SAP to it");
        ClayFort x = Edges.of("p55" + ONES.substring(0, 25) + ";g004;g404;g044;g444");
        Edges.due("all", x.silence(12), 15);
        Edges.due("the two that see all of column 0", x.silence(11), 5);
        // One gun, of the highest number, ahead of two of lower numbers.
        x = Edges.of(TWO_ENDS + ";g001;g001;g041");
        Edges.due("one", x.silence(5), 4);
        x = Edges.of(TWO_ENDS + ";g001;g001;g001;g041");
        Edges.due("one", x.silence(5), 8);
    }

    private static void silenceOfLeast() {
        Edges.says("section 3", "as a set: of several the least");
        Edges.due("0 or 1", Edges.of(TWO_ENDS + ";g001;g041").silence(5), 1);
        Edges.due("0 3 or 1 2", Edges.of(TWO_ENDS + ";g001;g041;g041;g001").silence(5), 6);
        Edges.due("0 1 or 2 3", Edges.of(TWO_ENDS + ";g041;g041;g001;g001").silence(5), 3);
        Edges.due("0 2 or 1 3", Edges.of(TWO_ENDS + ";g041;g001;g041;g001").silence(5), 5);
    }

    private static void silenceBesides() {
        Edges.says("section 3", "GUNS (that are not SILENT)");
        ClayFort x = Edges.of("p55" + ONES.substring(0, 25) + ";g004;g404;g044;g444");
        for (int g = 0; g < 4; g++) {
            x.hush(g, true);
            Edges.due("without 0 .. " + g, x.silence(12), 15 & -2 << g);
        }
        x.hush(1, false);
        Edges.due("1 alone", x.silence(12), 2);
        // One that is silent opens half of a way: what is left to be done counts.
        x = Edges.of(TWO_ENDS + ";g001;g041;g041");
        Edges.due("0", x.silence(5), 1);
        x.hush(1, true);
        Edges.due("0, or 2", x.silence(5), 1);
        for (int g = 0; g < 3; g++) {
            Edges.due("nothing is changed", x.ofGun(g, 4), g == 1 ? 1 : 0);
        }
        x.hush(2, true);
        Edges.due("none any more", x.silence(5), 0);
    }

    // ---- breach, day

    private static void breachOfEachSide() {
        Edges.says("section 3", "the NIGHTS of the SAP to a CELL next to it that takes the fewest");
        int[] sides = {7, 11, 13, 17};
        int[] due = {3, 2, 6, 3};
        for (int k = 0; k < 4; k++) {
            ClayFort x = Edges.of("p55" + ONES.substring(0, 25) + ";g220");
            Edges.due("all sides", x.breach(0), 2);
            soakAll(x, 0, sides);
            Edges.due("no side", x.breach(0), NONE);
            x.soak(sides[k], 1);
            Edges.due("side " + sides[k], x.breach(0), due[k]);
            x.soak(sides[k], 9);
            Edges.due("side " + sides[k] + ", heavy", x.breach(0), due[k] + 8);
        }
        ClayFort x = Edges.of("p66" + ONES + ";g000;g500;g050;g550");
        Edges.due("corner 0", x.breach(0), 1);
        Edges.due("corner 5", x.breach(1), 6);
        Edges.due("corner 30", x.breach(2), 1);
        Edges.due("corner 35", x.breach(3), 6);
        x.dig(6);
        Edges.due("a dug cell", x.breach(0), 0);
        Edges.due("gun 4", x.breach(4), UNKNOWN);
        Edges.due("gun -1", x.breach(-1), UNKNOWN);
    }

    private static void breachByMoreCells() {
        Edges.says("section 3", "the NIGHTS of the SAP (fewer NIGHTS go ahead of fewer CELLS)");
        ClayFort x = Edges.of("p43" + "1191" + "1111" + "1111" + ";g300");
        Edges.due("sap to 2", x.sap(2, -2), 11);
        Edges.due("breach, by 4 .. 7", x.breach(0), 4);
        x.soak(5, 9);
        x.soak(6, 9);
        Edges.due("breach, by 8 .. 11, 7", x.breach(0), 5);
        Edges.due("day", x.day(1), 5);
        Edges.due("cells of the sap to 7", x.sap(7, -1), 5);
    }

    private static void breachOfNone() {
        Edges.says("promise 20", "BREACH; NONE");
        ClayFort x = Edges.of("p33" + ONES.substring(0, 9) + ";g111;g220;g120;g210");
        Edges.due("it sees all about it", x.breach(0), NONE);
        x.hush(0, true);
        Edges.due("it is silent", x.breach(0), 1);
        Edges.due("guns on both sides", x.breach(1), NONE);
        x.haul(3, 2);
        Edges.due("one side is left", x.breach(1), NONE);
        x.haul(0, 2);
        Edges.due("a way to it", x.breach(1), 3);
        x.soak(5, 0);
        Edges.due("water", x.breach(1), NONE);
        // Over the end of a row no cell is next to it.
        x = Edges.of("p33" + "110" + "100" + "100" + ";g200");
        Edges.due("next to it is 1", x.breach(0), 2);
        x.soak(1, 0);
        Edges.due("3 is not", x.breach(0), NONE);
        x = Edges.of("p34" + "001" + "001" + "001" + "111" + ";g010");
        Edges.due("there is a sap to 2", x.sap(2, -2), 6);
        Edges.due("2 is not", x.breach(0), NONE);
    }

    private static void day() {
        Edges.says("promise 21", "the GUN (what 0), its BREACH (1); NONE. OUTSIDE; STATE: there is no GROUND");
        ClayFort x = new ClayFort();
        Edges.due("what 2, no ground", x.day(2), OUTSIDE);
        Edges.due("what -1, no ground", x.day(-1), OUTSIDE);
        Edges.due("no ground", x.day(0), STATE);
        Edges.due("no ground", x.day(1), STATE);
        x = Edges.of("p33" + ONES.substring(0, 9) + ";g111");
        Edges.due("none", x.day(0), NONE);
        Edges.due("none", x.day(1), NONE);
        Edges.due("what 2", x.day(2), OUTSIDE);
        Edges.due("what -1", x.day(-1), OUTSIDE);
        x.hush(0, true);
        Edges.due("the only one", x.day(0), 0);
        Edges.due("its nights", x.day(1), 1);
        x.dig(3);
        Edges.due("no night at all", x.day(1), 0);
        Edges.due("its gun", x.day(0), 0);
    }

    private static void dayOfSeveral() {
        Edges.says("section 3", "DAY: the GUN whose BREACH takes the fewest: of several the least");
        ClayFort x = Edges.of("p66" + ONES + ";g550;g500;g550;g500");
        Edges.due("all alike", x.day(0), 0);
        Edges.due("their nights", x.day(1), 5);
        x.haul(3, 0);
        Edges.due("the last one", x.day(0), 3);
        Edges.due("its nights", x.day(1), 1);
        x.haul(2, 0);
        Edges.due("the last but one", x.day(0), 2);
        x.haul(2, 3);
        x.haul(3, 35);
        Edges.due("between", x.day(0), 2);
        Edges.due("its nights", x.day(1), 3);
        x.charge(2, 1);
        Edges.due("it sees all about it", x.day(0), 0);
        x.soak(29, 0);
        x.soak(34, 0);
        Edges.due("none gets to 0", x.day(0), 1);
        Edges.due("12 .. 17, 11: out of reach of 2", x.day(1), 7);
        x.soak(11, 0);
        Edges.due("none", x.day(0), NONE);
        Edges.due("none", x.day(1), NONE);
    }

    // ---- post

    private static void postAnotherCell() {
        Edges.says("section 3", "POST for a CELL: another CELL in which no GUN stands");
        ClayFort x = Edges.of("p33" + ONES.substring(0, 9) + ";g210;g120");
        // To 0 only 5 and 7 are blind, and guns are there.
        Edges.due("no such cell", x.post(0, 0), NONE);
        Edges.due("no such nights", x.post(0, 1), NONE);
        x.haul(1, 8);
        Edges.due("7", x.post(0, 0), 7);
        Edges.due("nights", x.post(0, 1), 1);
        x.hush(0, true);
        Edges.due("a silent one stands there too", x.post(0, 0), 7);
        x.haul(0, 8);
        Edges.due("5", x.post(0, 0), 5);
        x.soak(5, 0);
        Edges.due("water or not", x.post(0, 0), 5);
    }

    private static void postOutOfSight() {
        Edges.says("section 3", "from which a GUN of kind 0 and REACH 2 would not SEE it");
        ClayFort x = Edges.of("p42" + "11111111" + ";g310");
        Edges.due("three off in the row", x.post(0, 0), 3);
        x.haul(0, 3);
        Edges.due("a knight's step off", x.post(0, 0), 6);
        x.haul(0, 1);
        Edges.due("two off, a gun between", x.post(0, 0), 2);
        x.hush(0, true);
        Edges.due("two off, a silent gun between", x.post(0, 0), 2);
        Edges.due("nights", x.post(0, 1), 1);
        x = Edges.of("p24" + "11111111" + ";g130");
        Edges.due("a knight's step off in the column", x.post(0, 0), 5);
        x.haul(0, 5);
        Edges.due("three off in the column", x.post(0, 0), 6);
    }

    private static void postMost() {
        Edges.says("section 3", "the NIGHTS of the SAP to it are most");
        ClayFort x = Edges.of(TWO_WAYS + ";g120;g320");
        Edges.due("now", x.sap(2, -2), 3);
        Edges.due("the cell", x.post(2, 0), 6);
        Edges.due("its nights", x.post(2, 1), 14);
        x.soak(35, 9);
        Edges.due("its nights", x.post(2, 1), 22);
        x.soak(1, 9);
        Edges.due("the cell", x.post(2, 0), 6);
        // Where the way around is the lighter one, what shoots at that does most.
        x.soak(0, 9);
        x.soak(1, 9);
        x.soak(2, 9);
        x.soak(35, 1);
        Edges.due("now", x.sap(2, -2), 22);
        Edges.due("the least cell that shoots at the way around", x.post(2, 0), 5);
        Edges.due("its nights", x.post(2, 1), 27);
    }

    private static void postNoneIsMore() {
        Edges.says("section 3", "(none at all is more than any): of several the least CELL");
        ClayFort x = Edges.of(TWO_WAYS + ";g120;g220");
        Edges.due("15 shuts both", x.post(2, 0), 15);
        Edges.due("no nights", x.post(2, 1), NONE);
        x.haul(0, 15);
        Edges.due("13 does", x.post(2, 0), 13);
        x.haul(0, 14);
        Edges.due("13 and 15 do", x.post(2, 0), 13);
        // It stands on a way itself: the way is shut.
        x = Edges.of("p62" + "111111" + "000000" + ";g010");
        Edges.due("from 0 on it is shut", x.post(5, 0), 0);
        Edges.due("no nights", x.post(5, 1), NONE);
    }

    private static void postOfNone() {
        Edges.says("section 3", "NONE: there is no such CELL");
        ClayFort x = Edges.of("p22" + "1111" + ";g000");
        for (int c = 0; c < 4; c++) {
            Edges.due("cell for " + c, x.post(c, 0), NONE);
            Edges.due("nights for " + c, x.post(c, 1), NONE);
        }
        // A sap of no nights is one.
        x = Edges.of("p33" + ONES.substring(0, 9) + ";g220");
        x.dig(0);
        Edges.due("cell for a dug one", x.post(0, 0), 5);
        Edges.due("nights for a dug one", x.post(0, 1), 0);
        // No sap now, nor then: the least cell of all that do not see it.
        x = Edges.of("p33" + ONES.substring(0, 9) + ";g220");
        x.soak(0, 0);
        Edges.due("cell for water", x.post(0, 0), 5);
        Edges.due("nights for water", x.post(0, 1), NONE);
        Edges.due("cell for a gun's", x.post(8, 0), 1);
        Edges.due("nights for a gun's", x.post(8, 1), NONE);
        Edges.due("for 9", x.post(9, 0), UNKNOWN);
        Edges.due("for -1", x.post(-1, 0), UNKNOWN);
        Edges.due("what 2", x.post(0, 2), OUTSIDE);
        Edges.due("what -1", x.post(0, -1), OUTSIDE);
    }

    private static void postLeavesNothing() {
        Edges.says("section 3", "were one more such GUN there (a fifth one, too)");
        ClayFort x = Edges.of(TWO_WAYS + ";g550;g550;g120;g320");
        x.haul(0, 14);
        x.haul(1, 14);
        for (int g = 0; g < 4; g++) {
            x.hush(g, true);
        }
        Edges.due("the cell", x.post(2, 0), 6);
        Edges.due("its nights", x.post(2, 1), 14);
        Edges.due("guns", x.many(0), 4);
        Edges.due("no fifth", x.ofGun(4, 0), UNKNOWN);
        Edges.due("the sap", x.sap(2, -2), 3);
        for (int g = 0; g < 4; g++) {
            Edges.due("silent " + g, x.ofGun(g, 4), 1);
            Edges.due("reach " + g, x.ofGun(g, 2), 0);
        }
        for (int c = 0; c < 36; c++) {
            Edges.due("shot " + c, x.shot(c), 0);
        }
        x = Edges.of(TWO_WAYS + ";g550;g550;g120;g320");
        x.post(2, 0);
        for (int c = 0; c < 36; c++) {
            Edges.due("shot " + c, x.shot(c), 0);
        }
        for (int g = 0; g < 4; g++) {
            Edges.due("cover " + g, x.cover(g), 0);
        }
    }
}
