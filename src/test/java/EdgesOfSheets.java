/** The edges of section 5 and of promises 29 to 39. */
public final class EdgesOfSheets {
    private static final int UNKNOWN = Edges.UNKNOWN, OUTSIDE = Edges.OUTSIDE;
    private static final int NULL = Edges.NULL, CAST = Edges.CAST, INDEX = Edges.INDEX, SIZE = Edges.SIZE;
    private static final int LOW = Edges.LOW, TOP = Edges.TOP;
    private static final long LOST = Edges.LOST;

    public static void main(String[] args) {
        sheetSizes();
        sheetAnew();
        sheetRefused();
        loses();
        putPlaces();
        putCut();
        cellPlaces();
        cellLanes();
        copyPlaces();
        copyAsTheyWere();
        copyLanes();
        copyOfNone();
        tellings();
        fired();
        traceWraps();
        kindsOf();
        faultStays();
        faultGoes();
        many();
        lastCall();
        Edges.end("EdgesOfSheets");
    }

    // ---- helpers

    private static void rowIs(ClayFort x, int k, int lane, long... numbers) {
        for (int i = 0; i < numbers.length; i++) {
            Edges.due("sheet " + k + ", cell " + i, x.cell(k, i, lane), numbers[i]);
        }
        Edges.due("sheet " + k + ", behind the end", x.cell(k, numbers.length, lane), LOST);
        Edges.due("its fault", x.fault(), 3);
    }

    private static void lostBy(ClayFort x, int k, int i, int lane, int fault) {
        Edges.due("cell " + k + " " + i + " " + lane, x.cell(k, i, lane), LOST);
        Edges.due("its fault", x.fault(), fault);
    }

    // ---- sheets

    private static void sheetSizes() {
        Edges.says("section 5", "a row of 0 .. 60 numbers (0 at first) of a LANE");
        for (int lane = 0; lane < 3; lane++) {
            for (int n : new int[] {0, 1, 59, 60}) {
                ClayFort x = new ClayFort();
                for (int k = 0; k < 4; k++) {
                    Edges.due("sheet " + k + " of " + n, x.sheet(k, lane, n), 1);
                }
                rowIs(x, 3, lane, new long[n]);
            }
        }
        ClayFort x = new ClayFort();
        Edges.due("61", x.sheet(0, 0, 61), OUTSIDE);
        Edges.due("nothing still", x.lose(0), 0);
        Edges.due("-1", x.sheet(0, 0, -1), SIZE);
        Edges.due("nothing still", x.lose(0), 0);
    }

    private static void sheetAnew() {
        Edges.says("promise 29", "A SHEET gets a new row: 1");
        ClayFort x = new ClayFort();
        Edges.row(x, 0, 2, 7, 8, 9);
        Edges.due("as long", x.sheet(0, 2, 3), 1);
        rowIs(x, 0, 2, 0, 0, 0);
        x.put(0, 2, 5);
        x.sheet(0, 2, 1);
        x.sheet(0, 2, 4);
        rowIs(x, 0, 2, 0, 0, 0, 0);
        Edges.row(x, 0, 2, 7, 8, 9);
        x.lose(0);
        x.sheet(0, 1, 3);
        rowIs(x, 0, 1, 0, 0, 0);
        Edges.row(x, 1, 0, 1, 2);
        x.sheet(0, 0, 2);
        rowIs(x, 1, 0, 1, 2);
    }

    private static void sheetRefused() {
        Edges.says("promise 29", "UNKNOWN; OUTSIDE: lane, n above 60; SIZE");
        ClayFort x = new ClayFort();
        Edges.row(x, 0, 1, 4, 5);
        Edges.due("sheet 4", x.sheet(4, 3, 61), UNKNOWN);
        Edges.due("sheet -1", x.sheet(-1, 0, -1), UNKNOWN);
        Edges.due("lane 3, -1", x.sheet(0, 3, -1), OUTSIDE);
        Edges.due("lane -1", x.sheet(0, -1, 0), OUTSIDE);
        Edges.due("61", x.sheet(0, 0, 61), OUTSIDE);
        Edges.due("the most", x.sheet(0, 0, TOP), OUTSIDE);
        Edges.due("-1", x.sheet(0, 0, -1), SIZE);
        Edges.due("the fewest", x.sheet(0, 0, LOW), SIZE);
        rowIs(x, 0, 1, 4, 5);
    }

    private static void loses() {
        Edges.says("promise 30", "A SHEET has nothing: 1; 0: it had nothing");
        ClayFort x = new ClayFort();
        for (int k = 0; k < 4; k++) {
            Edges.due("nothing at first", x.lose(k), 0);
            x.sheet(k, 2, 0);
            Edges.due("a row of none is something", x.lose(k), 1);
            Edges.due("nothing again", x.lose(k), 0);
            x.sheet(k, 0, 60);
            Edges.due("a row", x.lose(k), 1);
            Edges.due("null", x.put(k, 0, 0), NULL);
        }
        Edges.due("sheet 4", x.lose(4), UNKNOWN);
        Edges.due("sheet -1", x.lose(-1), UNKNOWN);
    }

    private static void putPlaces() {
        Edges.says("promise 31", "Cell i of a SHEET becomes v: 1. UNKNOWN; NULL; INDEX");
        ClayFort x = new ClayFort();
        Edges.due("nothing", x.put(0, 0, 1), NULL);
        x.sheet(0, 0, 0);
        Edges.due("a row of none", x.put(0, 0, 1), INDEX);
        for (int n : new int[] {1, 60}) {
            x.sheet(0, 2, n);
            Edges.due("the first", x.put(0, 0, 1), 1);
            Edges.due("the last", x.put(0, n - 1, 2), 1);
            Edges.due("behind it", x.put(0, n, 3), INDEX);
            Edges.due("ahead of the first", x.put(0, -1, 3), INDEX);
            Edges.due("the highest", x.put(0, TOP, 3), INDEX);
            Edges.due("the lowest", x.put(0, LOW, 3), INDEX);
            Edges.due("the last is", x.cell(0, n - 1, 2), 2);
            Edges.due("the first is", x.cell(0, 0, 2), n == 1 ? 2 : 1);
        }
        Edges.due("sheet 4", x.put(4, 0, 1), UNKNOWN);
        Edges.due("sheet -1", x.put(-1, 0, 1), UNKNOWN);
    }

    private static void putCut() {
        Edges.says("section 5", "what comes to a cell of it is cut to its LANE");
        int[] put = {
            127, 128, 255, 256, -128, -129, -256, 32767, 32768, 65535, 65536, -32768, -32769, TOP, LOW, -1, 0,
        };
        int[] bytes = {127, -128, -1, 0, -128, 127, 0, -1, 0, -1, 0, 0, -1, -1, 0, -1, 0};
        int[] shorts = {
            127, 128, 255, 256, -128, -129, -256, 32767, -32768, -1, 0, -32768, 32767, -1, 0, -1, 0,
        };
        int[][] due = {bytes, shorts, put};
        for (int lane = 0; lane < 3; lane++) {
            ClayFort x = new ClayFort();
            Edges.row(x, 0, lane, put);
            for (int i = 0; i < put.length; i++) {
                Edges.due(put[i] + " in lane " + lane, x.cell(0, i, lane), due[lane][i]);
            }
        }
    }

    private static void cellPlaces() {
        Edges.says("promise 32", "Cell i of what a SHEET has. LOST: UNKNOWN; INDEX");
        ClayFort x = new ClayFort();
        lostBy(x, 0, 0, 0, 1);
        lostBy(x, 4, 0, 0, 0);
        lostBy(x, -1, 0, 0, 0);
        x.sheet(0, 0, 0);
        lostBy(x, 0, 0, 0, 3);
        x.sheet(0, 0, 60);
        x.put(0, 59, 9);
        Edges.due("the last", x.cell(0, 59, 0), 9);
        Edges.due("no fault", x.fault(), 0);
        for (int i : new int[] {60, -1, TOP, LOW}) {
            lostBy(x, 0, i, 0, 3);
        }
    }

    private static void cellLanes() {
        Edges.says("promise 32", "taken as a row of a LANE. LOST: OUTSIDE: lane; CAST (nothing is no CAST), NULL, INDEX");
        for (int lane = 0; lane < 3; lane++) {
            ClayFort x = new ClayFort();
            x.sheet(0, lane, 1);
            for (int other = 0; other < 3; other++) {
                if (other == lane) {
                    Edges.due("its own", x.cell(0, 0, other), 0);
                } else {
                    lostBy(x, 0, 0, other, 2);
                    lostBy(x, 0, 9, other, 2);
                }
                lostBy(x, 1, 9, other, 1);
            }
            lostBy(x, 0, 9, 3, 0);
            lostBy(x, 1, 9, -1, 0);
            x.sheet(0, lane, 0);
            lostBy(x, 0, 0, (lane + 1) % 3, 2);
        }
    }

    private static void copyPlaces() {
        Edges.says("promise 33", "n cells from i on go to another one from j on: n. INDEX: i, j, n below 0 or beyond");
        ClayFort x = new ClayFort();
        Edges.row(x, 0, 1, 1, 2, 3, 4);
        Edges.row(x, 1, 1, 7, 8, 9);
        int[][] beyond = {
            {-1, 0, 1}, {0, -1, 1}, {0, 0, -1}, {5, 0, 0}, {0, 4, 0}, {4, 0, 1}, {0, 3, 1}, {0, 0, 4}, {2, 0, 3},
            {0, 1, 3}, {TOP, 0, 1}, {0, TOP, 1}, {1, 1, TOP}, {TOP, TOP, TOP}, {LOW, 0, 1}, {0, LOW, 1},
            {0, 0, LOW}, {-1, 0, 0}, {0, -1, 0},
        };
        for (int[] b : beyond) {
            Edges.due(b[0] + " " + b[1] + " " + b[2], x.copy(0, b[0], 1, b[1], b[2]), INDEX);
            Edges.due("its fault", x.fault(), 3);
        }
        rowIs(x, 1, 1, 7, 8, 9);
        Edges.due("the last to the last", x.copy(0, 3, 1, 2, 1), 1);
        rowIs(x, 1, 1, 7, 8, 4);
        Edges.due("as many as go", x.copy(0, 1, 1, 0, 3), 3);
        rowIs(x, 1, 1, 2, 3, 4);
        rowIs(x, 0, 1, 1, 2, 3, 4);
        Edges.due("more than the first has", x.copy(1, 0, 0, 0, 4), INDEX);
    }

    private static void copyAsTheyWere() {
        Edges.says("promise 33", "(perhaps the same) .. as they were");
        ClayFort x = new ClayFort();
        Edges.row(x, 0, 0, 1, 2, 3, 4, 5);
        Edges.due("to the right", x.copy(0, 0, 0, 1, 4), 4);
        rowIs(x, 0, 0, 1, 1, 2, 3, 4);
        Edges.row(x, 0, 0, 1, 2, 3, 4, 5);
        Edges.due("to the left", x.copy(0, 1, 0, 0, 4), 4);
        rowIs(x, 0, 0, 2, 3, 4, 5, 5);
        Edges.due("onto itself", x.copy(0, 0, 0, 0, 5), 5);
        rowIs(x, 0, 0, 2, 3, 4, 5, 5);
        Edges.due("one beyond", x.copy(0, 0, 0, 1, 5), INDEX);
        rowIs(x, 0, 0, 2, 3, 4, 5, 5);
    }

    private static void copyLanes() {
        Edges.says("promise 33", "FAULTS NULL (the first, the other), CAST (unlike LANES)");
        for (int lane = 0; lane < 3; lane++) {
            for (int other = 0; other < 3; other++) {
                ClayFort x = new ClayFort();
                x.sheet(0, lane, 2);
                x.sheet(1, other, 2);
                Edges.due(lane + " to " + other, x.copy(0, 0, 1, 0, 2), lane == other ? 2 : CAST);
                Edges.due(lane + " to " + other + ", beyond", x.copy(0, 0, 1, 0, 3), lane == other ? INDEX : CAST);
                Edges.due("nothing", x.copy(2, 9, 1, 9, -1), NULL);
                Edges.due("to nothing", x.copy(0, 9, 2, 9, -1), NULL);
            }
        }
    }

    private static void copyOfNone() {
        Edges.says("Terms", "INDEX (of cells from i on also where i is not 0 .. how many there are, if none is taken, too)");
        ClayFort x = new ClayFort();
        x.sheet(0, 2, 0);
        x.sheet(1, 2, 60);
        Edges.due("none of none", x.copy(0, 0, 0, 0, 0), 0);
        Edges.due("none to the end", x.copy(0, 0, 1, 60, 0), 0);
        Edges.due("none from the end", x.copy(1, 60, 0, 0, 0), 0);
        Edges.due("beyond the first's end", x.copy(1, 61, 0, 0, 0), INDEX);
        Edges.due("beyond the other's end", x.copy(1, 0, 0, 1, 0), INDEX);
        Edges.due("all sixty", x.copy(1, 0, 1, 0, 60), 60);
        Edges.due("sheet 4", x.copy(4, 0, 0, 0, 0), UNKNOWN);
        Edges.due("other 4", x.copy(0, 0, 4, 0, 0), UNKNOWN);
        Edges.due("sheet -1", x.copy(-1, 0, 0, 0, 0), UNKNOWN);
        Edges.due("other -1", x.copy(0, 0, -1, 0, 0), UNKNOWN);
    }

    // ---- guns that tell, that are fired

    private static void tellings() {
        Edges.says("section 5", "GUN (1): REACH. HOWITZER (2): .. and 100. MORTAR (3): .. once more what GUN's gives");
        int[] traces = {1, 2 * 31 + 1, ((3 * 31 + 2) * 31 + 1) * 31 + 1};
        for (int v = 0; v <= 9; v++) {
            int[] due = {v, v + 100, 2 * v + 100};
            for (int g = 0; g < 3; g++) {
                ClayFort x = Edges.of("p221111;g000;h000;m000");
                x.charge(g, v);
                Edges.due("gun " + g + ", reach " + v, x.tell(g), due[g]);
                Edges.due("trace", x.trace(), traces[g]);
                Edges.due("gun 3", x.tell(3), UNKNOWN);
                Edges.due("gun -1", x.tell(-1), UNKNOWN);
                Edges.due("trace is as it was", x.trace(), traces[g]);
            }
        }
    }

    private static void fired() {
        Edges.says("section 5", "FIRED by a lent body (4): the GUN's number; MORTARS have their own (5): 90");
        ClayFort x = Edges.of("p221111;g009;h009;g009;h009");
        int trace = 0;
        for (int g = 0; g < 4; g++) {
            Edges.due("gun " + g, x.fire(g), g);
            trace = 31 * trace + 4;
            Edges.due("trace", x.trace(), trace);
        }
        Edges.due("gun 4", x.fire(4), UNKNOWN);
        Edges.due("gun -1", x.fire(-1), UNKNOWN);
        Edges.due("trace is as it was", x.trace(), trace);
        x = Edges.of("p221111;m009;m009;m009;m009");
        trace = 0;
        for (int g = 0; g < 4; g++) {
            Edges.due("mortar " + g, x.fire(g), 90);
            trace = 31 * trace + 5;
            Edges.due("trace", x.trace(), trace);
        }
    }

    private static void traceWraps() {
        Edges.says("section 5", "TRACE (an int that wraps, 0 at first, becomes 31 times it and the number)");
        ClayFort x = new ClayFort();
        Edges.due("at first", x.trace(), 0);
        Edges.ground(x, 0, 0, "p221111;g000;m000");
        Edges.due("no body began", x.trace(), 0);
        long trace = 0;
        for (int n = 0; n < 100; n++) {
            x.fire(n % 3 == 0 ? 1 : 0);
            trace = (int) (31 * trace + (n % 3 == 0 ? 5 : 4));
            Edges.due("trace after " + n, x.trace(), trace);
        }
        Edges.due("a silent one's", x.hush(0, true), 0);
        x.tell(0);
        Edges.due("trace", x.trace(), (int) (31 * trace + 1));
    }

    private static void kindsOf() {
        Edges.says("promise 36", "A GUN, taken as one of a kind: 1. UNKNOWN; OUTSIDE; CAST: it is none");
        ClayFort x = Edges.of("p221111;g000;h000;m000");
        int[][] due = {{1, CAST, CAST}, {1, 1, CAST}, {1, 1, 1}};
        for (int g = 0; g < 3; g++) {
            for (int kind = 0; kind < 3; kind++) {
                Edges.due(g + " as " + kind, x.as(g, kind), due[g][kind]);
                Edges.due("its fault", x.fault(), due[g][kind] == 1 ? 0 : 2);
            }
            Edges.due(g + " as 3", x.as(g, 3), OUTSIDE);
            Edges.due(g + " as -1", x.as(g, -1), OUTSIDE);
        }
        Edges.due("gun 3", x.as(3, 0), UNKNOWN);
        Edges.due("gun -1", x.as(-1, 3), UNKNOWN);
    }

    // ---- faults, numbers

    private static void faultStays() {
        Edges.says("promise 38", "The FAULT of the latest call that names one");
        ClayFort x = Edges.of("p33" + "1".repeat(9) + ";g001");
        x.put(0, 0, 0);
        x.clay(0);
        x.soak(0, 1);
        x.soak(9, 1);
        x.charge(0, 1);
        x.ofGun(0, 9);
        x.hush(0, false);
        x.haul(0, 0);
        x.sees(9);
        x.shot(0);
        x.is(0, 0);
        x.cover(0);
        x.bare();
        x.dig(0);
        x.dig(6);
        x.fill();
        x.sap(8, -1);
        x.rush(8, 99);
        x.silence(8);
        x.breach(0);
        x.day(0);
        x.post(8, 0);
        x.reading(1, true);
        x.reaches(0);
        x.kinds(0);
        x.haunts(9);
        x.odds(8, 0);
        x.back(1);
        x.lose(0);
        x.lose(9);
        x.tell(0);
        x.fire(0);
        x.trace();
        x.many(0);
        x.fault();
        Edges.due("none of these names one", x.fault(), 1);
        Edges.due("asked twice", x.fault(), 1);
    }

    private static void faultGoes() {
        Edges.says("promise 38", "0: it came to none, or was refused (0 ahead of any)");
        ClayFort x = new ClayFort();
        Edges.due("ahead of any", x.fault(), 0);
        String text = "p221111;h110";
        for (int turn = 0; turn < 14; turn++) {
            Edges.ground(x, 3, 0, text);
            Edges.due("null", x.put(0, 0, 0), NULL);
            Edges.due("told", x.fault(), 1);
            switch (turn) {
                case 0: x.ground(3, 0, 0, 12); break;
                case 1: x.ground(3, 0, 0, 11); break;
                case 2: x.ground(4, 0, 0, 11); break;
                case 3: x.trench(3, 0, 0, 0, 0); break;
                case 4: x.trench(3, 0, 0, 1, 0); break;
                case 5: x.trench(3, 0, 0, 41, 0); break;
                case 6: x.sheet(2, 0, 1); break;
                case 7: x.sheet(2, 0, 61); break;
                case 8: x.put(3, 11, '0'); break;
                case 9: x.put(4, 0, 0); break;
                case 10: x.cell(3, 0, 0); break;
                case 11: x.cell(3, 0, 3); break;
                case 12: x.copy(3, 0, 3, 0, 12); break;
                default: x.as(0, 1); break;
            }
            Edges.due("none, call " + turn, x.fault(), 0);
        }
        Edges.due("cast", x.as(0, 2), CAST);
        Edges.due("told", x.fault(), 2);
        x.as(0, 3);
        Edges.due("refused", x.fault(), 0);
        x.as(0, 2);
        x.copy(0, 0, 4, 0, 0);
        Edges.due("refused", x.fault(), 0);
    }

    private static void many() {
        Edges.says("promise 39", "0 GUNS, 1 WIDE, 2 HIGH, 3 CELLS that are DUG, 4 READINGS (0 all without a GROUND)");
        ClayFort x = new ClayFort();
        for (int what = 0; what < 5; what++) {
            Edges.due("none of " + what, x.many(what), 0);
        }
        Edges.due("what 5", x.many(5), OUTSIDE);
        Edges.due("what -1", x.many(-1), OUTSIDE);
        Edges.ground(x, 0, 0, "p62" + "1".repeat(12) + ";g510;g510;g510;g510");
        int[] due = {4, 6, 2, 0, 0};
        for (int what = 0; what < 5; what++) {
            Edges.due("what " + what, x.many(what), due[what]);
        }
        for (int k = 0; k < 8; k++) {
            x.reading(0, false);
        }
        for (int c = 0; c < 11; c++) {
            x.dig(c);
        }
        Edges.due("all the readings there can be", x.many(4), 8);
        Edges.due("all that can be dug", x.many(3), 11);
        Edges.due("what 5", x.many(5), OUTSIDE);
    }

    private static void lastCall() {
        Edges.says("What it is", "An object is used for at most 512 calls after it has been made");
        ClayFort x = new ClayFort();
        int calls = 14;
        Edges.ground(x, 0, 2, "p221111;m119");
        long trace = 0;
        while (calls < 511) {
            x.fire(0);
            trace = (int) (31 * trace + 5);
            calls++;
        }
        Edges.due("the last one", x.trace(), trace);
    }
}
