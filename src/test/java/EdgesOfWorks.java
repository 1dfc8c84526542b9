/** The edges of what a GUN SEES, of SHOT and SOIL, of section 2, and of promises 9 to 16. */
public final class EdgesOfWorks {
    private static final int UNKNOWN = Edges.UNKNOWN, STATE = Edges.STATE, NONE = Edges.NONE;
    private static final String ONES = "1".repeat(36);

    public static void main(String[] args) {
        seesOffItsOwn();
        seesRowColumnSlant();
        seesUpToRange();
        seesUpToGuns();
        seesNotAroundEdges();
        shot();
        shotBySilentOnes();
        soil();
        isWhat();
        cover();
        bare();
        nextTo();
        digs();
        digsNoSoil();
        digsShotCells();
        digsAgain();
        fill();
        fillsAll();
        trenchOfNone();
        trenchOfMost();
        trenchFirstWrong();
        trenchNights();
        trenchShot();
        trenchWhat();
        trenchCells();
        Edges.end("EdgesOfWorks");
    }

    // ---- helpers

    private static void seesIs(ClayFort x, int g, int... cells) {
        Edges.due("gun " + g + " sees", x.sees(g), Edges.bits(cells));
    }

    /** A ground of clay 1, with a gun of reach 0 in its last cell. */
    private static ClayFort open(int wide, int high) {
        return Edges.of("p" + wide + high + ONES.substring(0, wide * high) + ";g" + (wide - 1) + (high - 1) + "0");
    }

    private static void trenchIs(ClayFort x, int[] due, int... cells) {
        Edges.row(x, 0, 2, cells);
        for (int what = 0; what < 5; what++) {
            Edges.due("trench, " + what, x.trench(0, 2, 0, cells.length, what), due[what]);
        }
    }

    private static void trenchIsWrong(ClayFort x, int wrong, int... cells) {
        trenchIs(x, new int[] {-100 - wrong, wrong, -100 - wrong, -100 - wrong, -100 - wrong}, cells);
    }

    private static void trenchIsRight(ClayFort x, int nights, int... cells) {
        Edges.row(x, 0, 2, cells);
        Edges.due("first wrong", x.trench(0, 2, 0, cells.length, 1), NONE);
        Edges.due("nights", x.trench(0, 2, 0, cells.length, 0), nights);
    }

    // ---- what a gun sees

    private static void seesOffItsOwn() {
        Edges.says("section 1", "a CELL that lies off its own");
        ClayFort x = Edges.of("p66" + ONES + ";g009;g009;h009;m009");
        for (int c = 0; c < 36; c++) {
            for (int g = 0; g < 4; g++) {
                x.haul(g, c);
                Edges.due("its own", x.sees(g) >> c & 1, 0);
            }
        }
        // Another gun in the same cell neither is seen nor stops the sight.
        seesIs(x, 0, 30, 31, 32, 33, 34, 5, 11, 17, 23, 29, 0, 7, 14, 21, 28);
    }

    private static void seesRowColumnSlant() {
        Edges.says("section 1", "in its row, its column, or a slant of it (as many columns off as rows)");
        ClayFort x = Edges.of("p66" + ONES + ";g229");
        seesIs(x, 0, 12, 13, 15, 16, 17, 2, 8, 20, 26, 32, 0, 7, 21, 28, 35, 4, 9, 19, 24);
        x.haul(0, 0);
        seesIs(x, 0, 1, 2, 3, 4, 5, 6, 12, 18, 24, 30, 7, 14, 21, 28, 35);
        x.haul(0, 35);
        seesIs(x, 0, 30, 31, 32, 33, 34, 5, 11, 17, 23, 29, 0, 7, 14, 21, 28);
        x.haul(0, 5);
        seesIs(x, 0, 0, 1, 2, 3, 4, 11, 17, 23, 29, 35, 10, 15, 20, 25, 30);
        x.haul(0, 30);
        seesIs(x, 0, 31, 32, 33, 34, 35, 0, 6, 12, 18, 24, 25, 20, 15, 10, 5);
    }

    private static void seesUpToRange() {
        Edges.says("section 1", "by no more CELLS than RANGE");
        ClayFort x = Edges.of("p66" + "0".repeat(36) + ";g000;h000;m000");
        x.haul(1, 0);
        x.haul(2, 0);
        long[] upTo = new long[6];
        for (int off = 1; off < 6; off++) {
            upTo[off] = upTo[off - 1] | Edges.bits(off, 6 * off, 7 * off);
        }
        for (int v = 0; v <= 9; v++) {
            for (int g = 0; g < 3; g++) {
                x.charge(g, v);
            }
            Edges.due("gun, reach " + v, x.sees(0), upTo[Math.min(v, 5)]);
            Edges.due("howitzer, reach " + v, x.sees(1), upTo[Math.min(v + 1, 5)]);
            Edges.due("mortar, reach " + v, x.sees(2), upTo[(v + 1) / 2]);
        }
    }

    private static void seesUpToGuns() {
        Edges.says("section 1", "with no CELL between them in which a GUN (SILENT or not) stands");
        ClayFort x = Edges.of("p55" + ONES.substring(0, 25) + ";g229;g000");
        long all = (1L << 25) - 1 - (1L << 12);
        for (int silent = 0; silent < 2; silent++) {
            for (int off : new int[] {-6, -5, -4, -1, 1, 4, 5, 6}) {
                long inLine = Edges.bits(12, 12 + off, 12 + 2 * off);
                long rest = 0;
                for (int way : new int[] {-6, -5, -4, -1, 1, 4, 5, 6}) {
                    rest |= Edges.bits(12 + way, 12 + 2 * way);
                }
                x.haul(1, 12 + off);
                Edges.due("one between, " + off, x.sees(0), rest & ~inLine | 1L << 12 + off);
                x.haul(1, 12 + 2 * off);
                Edges.due("one at the end, " + off, x.sees(0), rest & all);
            }
            x.hush(1, true);
        }
        // The nearest one stops it; those behind count for nothing.
        x = Edges.of("p62" + "1".repeat(12) + ";g009;g200;g300;g500");
        seesIs(x, 0, 1, 2, 6, 7);
        x.haul(1, 3);
        seesIs(x, 0, 1, 2, 3, 6, 7);
        x.haul(1, 5);
        x.haul(2, 5);
        seesIs(x, 0, 1, 2, 3, 4, 5, 6, 7);
    }

    private static void seesNotAroundEdges() {
        Edges.says("section 1", "in its row, its column, or a slant (no line goes on at another edge)");
        ClayFort x = Edges.of("p33" + ONES.substring(0, 9) + ";g009");
        int[][] due = {
            {1, 2, 3, 6, 4, 8}, {0, 2, 4, 7, 3, 5}, {0, 1, 5, 8, 4, 6}, {4, 5, 0, 6, 1, 7}, {0, 1, 2, 3, 5, 6, 7, 8},
            {3, 4, 2, 8, 1, 7}, {7, 8, 0, 3, 4, 2}, {6, 8, 1, 4, 3, 5}, {6, 7, 2, 5, 0, 4},
        };
        for (int c = 0; c < 9; c++) {
            x.haul(0, c);
            seesIs(x, 0, due[c]);
        }
        x = Edges.of("p22" + "1111;h009");
        for (int c = 0; c < 4; c++) {
            x.haul(0, c);
            Edges.due("the other three", x.sees(0), 15 - (1 << c));
        }
        x = Edges.of("p62" + ONES.substring(0, 12) + ";g009;g509;g019;g519");
        seesIs(x, 0, 1, 2, 3, 4, 5, 6, 7);
        seesIs(x, 1, 0, 1, 2, 3, 4, 10, 11);
        seesIs(x, 2, 0, 1, 7, 8, 9, 10, 11);
        seesIs(x, 3, 4, 5, 6, 7, 8, 9, 10);
        x = Edges.of("p26" + ONES.substring(0, 12) + ";g009;g159");
        seesIs(x, 0, 1, 3, 2, 4, 6, 8, 10);
        seesIs(x, 1, 10, 8, 1, 3, 5, 7, 9);
    }

    // ---- shot, soil

    private static void shot() {
        Edges.says("promise 10", "GUNS that are not SILENT and SEE a CELL, as a set");
        ClayFort x = Edges.of("p55" + ONES.substring(0, 25) + ";g004;g404;g044;g444");
        Edges.due("by all", x.shot(12), 15);
        Edges.due("by two", x.shot(2), 3);
        Edges.due("by none", x.shot(7), 0);
        Edges.due("a gun's cell, by the others", x.shot(0), 14);
        x.haul(1, 0);
        Edges.due("not by those in it", x.shot(0), 12);
        for (int g = 0; g < 4; g++) {
            x.charge(g, 0);
        }
        for (int c = 0; c < 25; c++) {
            Edges.due("no reach, cell " + c, x.shot(c), 0);
        }
    }

    private static void shotBySilentOnes() {
        Edges.says("section 1", "SHOT is a CELL that a GUN SEES that is not SILENT");
        ClayFort x = Edges.of("p55" + ONES.substring(0, 25) + ";g004;g404;g044;g444");
        for (int g = 0; g < 4; g++) {
            x.hush(g, true);
            Edges.due("without 0 .. " + g, x.shot(12), 15 & -2 << g);
            Edges.due("sees it still", x.sees(g) >> 12 & 1, 1);
        }
        x.hush(3, false);
        Edges.due("by the last alone", x.shot(12), 8);
    }

    private static void soil() {
        Edges.says("section 1", "SOIL is a CELL with CLAY above 0 in which no GUN stands");
        ClayFort x = Edges.of("p520123456789;g300");
        for (int c = 0; c < 10; c++) {
            Edges.due("soil " + c, x.is(c, 0), c == 0 || c == 3 ? 0 : 1);
        }
        x.hush(0, true);
        Edges.due("a silent one's cell", x.is(3, 0), 0);
        x.haul(0, 0);
        Edges.due("left", x.is(3, 0), 1);
        x.charge(0, 9);
        Edges.due("shot, but soil", x.is(1, 0), 1);
    }

    private static void isWhat() {
        Edges.says("promise 11", "Whether a CELL is SOIL (what 0), is DUG (1): 1, 0");
        ClayFort x = open(6, 6);
        Edges.due("not dug", x.is(0, 1), 0);
        x.dig(0);
        Edges.due("dug", x.is(0, 1), 1);
        Edges.due("dug is soil", x.is(0, 0), 1);
        Edges.due("the last, a gun's", x.is(35, 0), 0);
        Edges.due("the one ahead of it", x.is(34, 0), 1);
        Edges.due("36", x.is(36, 0), UNKNOWN);
        Edges.due("what 2", x.is(0, 2), Edges.OUTSIDE);
        Edges.due("what -1", x.is(0, -1), Edges.OUTSIDE);
    }

    private static void cover() {
        Edges.says("section 2", "GUNS COVER one whose CELL they SEE (SILENT or not)");
        ClayFort x = Edges.of("p55" + "0".repeat(25) + ";g004;g404;g044;g444");
        for (int silent = 0; silent < 2; silent++) {
            for (int g = 0; g < 4; g++) {
                Edges.due("by the others", x.cover(g), 15 - (1 << g));
            }
            for (int g = 0; g < 4; g++) {
                x.hush(g, true);
            }
        }
        for (int g = 0; g < 4; g++) {
            x.charge(g, 3);
        }
        for (int g = 0; g < 4; g++) {
            Edges.due("one cell too far", x.cover(g), 0);
        }
        x.haul(1, 0);
        Edges.due("not in the same cell", x.cover(0), 0);
        x.haul(1, 3);
        Edges.due("three off", x.cover(0), 2);
        Edges.due("and back", x.cover(1), 1);
        x.haul(2, 2);
        Edges.due("one between", x.cover(0), 4);
        Edges.due("gun 4", x.cover(4), UNKNOWN);
        Edges.due("gun -1", x.cover(-1), UNKNOWN);
    }

    private static void bare() {
        Edges.says("section 2", "BARE are those whom none COVERS");
        Edges.due("one alone", Edges.of("p221111;g009").bare(), 1);
        Edges.due("all", Edges.of("p66" + ONES + ";g000;g500;g050;g550").bare(), 15);
        Edges.due("none", Edges.of("p66" + ONES + ";g005;g505;g055;g555").bare(), 0);
        Edges.due("all in one cell", Edges.of("p66" + ONES + ";g009;g009;g009;g009").bare(), 15);
        ClayFort x = Edges.of("p66" + ONES + ";g005;g500;g050;g440");
        Edges.due("the one that covers", x.bare(), 1);
        x.hush(0, true);
        Edges.due("silent or not", x.bare(), 1);
        Edges.due("no ground", new ClayFort().bare(), STATE);
    }

    // ---- digging

    /** All of these are dug one after another; then of all cells off column 0 none but those next to them can be. */
    private static void nextToAre(int[] dug, int... next) {
        long all = Edges.bits(next);
        for (int c = 0; c < 36; c++) {
            ClayFort x = open(6, 6);
            for (int d : dug) {
                Edges.due("dig " + d, x.dig(d), 1);
            }
            if (c % 6 != 0 && x.is(c, 1) == 0) {
                Edges.due("then " + c, x.dig(c), (all >> c & 1) == 1 ? 1 : STATE);
            }
        }
    }

    private static void nextTo() {
        Edges.says("section 2", "Next to a CELL are those above, below, left, right of it");
        nextToAre(new int[] {0}, 1);
        nextToAre(new int[] {30}, 31);
        nextToAre(new int[] {12, 13, 14}, 7, 8, 15, 19, 20);
        nextToAre(new int[] {0, 1, 2, 3, 4, 5}, 7, 8, 9, 10, 11);
        nextToAre(new int[] {12, 13, 14, 15, 16, 17}, 7, 8, 9, 10, 11, 19, 20, 21, 22, 23);
        nextToAre(new int[] {30, 31, 32, 33, 34}, 25, 26, 27, 28);
        nextToAre(new int[] {24, 25, 19, 20, 14}, 26, 31, 13, 21, 8, 15);
        ClayFort x = open(3, 3);
        x.dig(3);
        Edges.due("the end of the row above", x.dig(2), STATE);
        x.dig(4);
        x.dig(5);
        Edges.due("the end of the row above, from below", x.dig(2), 1);
    }

    private static void digs() {
        Edges.says("section 2", "One DIGS a CELL of SOIL that is not SHOT, in column 0 or next to one that is DUG");
        ClayFort x = Edges.of("p33" + "192" + "111" + "111" + ";g220");
        Edges.due("clay 1, column 0", x.dig(0), 1);
        Edges.due("clay 9, next to it", x.dig(1), 9);
        Edges.due("clay 2, next to that", x.dig(2), 2);
        Edges.due("how many", x.many(3), 3);
        x = open(2, 6);
        Edges.due("column 0, the last row", x.dig(10), 1);
        Edges.due("column 0, the first row", x.dig(0), 1);
        Edges.due("column 0, between, next to none", x.dig(4), 1);
        Edges.due("column 1, next to none", x.dig(7), STATE);
        Edges.due("column 1, next to one", x.dig(5), 1);
        Edges.due("column 1, next to that", x.dig(7), 1);
        x.fill();
        Edges.due("filled up is not dug", x.dig(7), STATE);
    }

    private static void digsNoSoil() {
        Edges.says("promise 14", "STATE: it is no SOIL");
        ClayFort x = Edges.of("p33" + "011" + "111" + "111" + ";g010;g110");
        x.hush(0, true);
        x.hush(1, true);
        Edges.due("water in column 0", x.dig(0), STATE);
        Edges.due("a gun's in column 0", x.dig(3), STATE);
        Edges.due("soil in column 0", x.dig(6), 1);
        Edges.due("next to it", x.dig(7), 1);
        Edges.due("a gun's next to it", x.dig(4), STATE);
        x.soak(8, 0);
        Edges.due("water next to it", x.dig(8), STATE);
        x.soak(8, 1);
        Edges.due("soil next to it", x.dig(8), 1);
        Edges.due("no more than these", x.many(3), 3);
    }

    private static void digsShotCells() {
        Edges.says("promise 14", "STATE: it is SHOT");
        ClayFort x = Edges.of("p33" + "111" + "111" + "111" + ";g111");
        for (int c : new int[] {0, 3, 6}) {
            Edges.due("shot " + c, x.dig(c), STATE);
        }
        x.charge(0, 0);
        Edges.due("out of reach", x.dig(0), 1);
        x.charge(0, 1);
        x.hush(0, true);
        Edges.due("seen by a silent one", x.dig(3), 1);
        x.hush(0, false);
        Edges.due("shot again", x.dig(6), STATE);
    }

    private static void digsAgain() {
        Edges.says("section 2", "0, if it is DUG already (else as any other: STATE)");
        ClayFort x = Edges.of("p33" + "555" + "555" + "555" + ";g220");
        x.dig(0);
        x.dig(1);
        Edges.due("again, in column 0", x.dig(0), 0);
        Edges.due("again, off it", x.dig(1), 0);
        Edges.due("counted once", x.many(3), 2);
        x.soak(1, 0);
        Edges.due("water now", x.dig(1), STATE);
        x.soak(1, 9);
        Edges.due("soil again, however heavy", x.dig(1), 0);
        x.haul(0, 1);
        Edges.due("a gun's now", x.dig(1), STATE);
        Edges.due("next to it all the same", x.dig(4), 5);
        x.haul(0, 8);
        x.charge(0, 1);
        Edges.due("shot now", x.dig(4), STATE);
        x.hush(0, true);
        Edges.due("no longer", x.dig(4), 0);
        Edges.due("dug are still three", x.many(3), 3);
    }

    private static void fill() {
        Edges.says("promise 15", "All that is DUG is filled up: how many CELLS were");
        ClayFort x = open(3, 3);
        Edges.due("none", x.fill(), 0);
        x.dig(0);
        x.dig(0);
        Edges.due("one, though told twice", x.fill(), 1);
        Edges.due("none again", x.fill(), 0);
        Edges.due("not dug", x.is(0, 1), 0);
        Edges.due("as heavy as ever", x.dig(0), 1);
        Edges.due("no ground", new ClayFort().fill(), STATE);
    }

    private static void fillsAll() {
        Edges.says("promise 15", "how many CELLS were (all of the largest GROUND)");
        ClayFort x = open(6, 6);
        for (int c = 0; c < 35; c++) {
            Edges.due("dig " + c, x.dig(c), 1);
        }
        Edges.due("dig a gun's", x.dig(35), STATE);
        x.haul(0, 0);
        Edges.due("dig the last", x.dig(35), 1);
        Edges.due("all are dug, the gun's new cell too", x.many(3), 36);
        Edges.due("all", x.fill(), 36);
        Edges.due("none is left", x.many(3), 0);
        for (int c = 0; c < 36; c++) {
            Edges.due("dug " + c, x.is(c, 1), 0);
        }
    }

    // ---- trenches

    private static void trenchOfNone() {
        Edges.says("promise 16", "A TRENCH of n such cells (n 0)");
        ClayFort x = open(3, 3);
        trenchIs(x, new int[] {0, NONE, 0, 0, 0});
        Edges.row(x, 0, 0, 99, 99);
        for (int i = 0; i <= 2; i++) {
            Edges.due("none from " + i, x.trench(0, 0, i, 0, 1), NONE);
        }
        Edges.due("none from 3", x.trench(0, 0, 3, 0, 1), Edges.INDEX);
        Edges.due("none from -1", x.trench(0, 0, -1, 0, 1), Edges.INDEX);
    }

    private static void trenchOfMost() {
        Edges.says("promise 16", "OUTSIDE: lane, n (0 .. 40), what (0 .. 4)");
        ClayFort x = open(2, 2);
        int[] to = new int[60];
        for (int k = 0; k < 60; k++) {
            to[k] = k % 2 * 2;
        }
        x.haul(0, 1);
        Edges.row(x, 0, 2, to);
        Edges.due("forty", x.trench(0, 2, 0, 40, 0), 2);
        Edges.due("forty, to the end", x.trench(0, 2, 20, 40, 4), 2);
        Edges.due("forty, beyond it", x.trench(0, 2, 21, 40, 4), Edges.INDEX);
        Edges.due("forty-one", x.trench(0, 2, 0, 41, 0), Edges.OUTSIDE);
        Edges.due("-1", x.trench(0, 2, 0, -1, 0), Edges.OUTSIDE);
        Edges.due("lane 3", x.trench(0, 3, 0, 1, 0), Edges.OUTSIDE);
        Edges.due("lane -1", x.trench(0, -1, 0, 1, 0), Edges.OUTSIDE);
        Edges.due("what 5", x.trench(0, 2, 0, 1, 5), Edges.OUTSIDE);
        Edges.due("what -1", x.trench(0, 2, 0, 1, -1), Edges.OUTSIDE);
        x.put(0, 39, 1);
        Edges.due("the fortieth is wrong", x.trench(0, 2, 0, 40, 1), 39);
        Edges.due("the fortieth is wrong", x.trench(0, 2, 0, 40, 0), -139);
        Edges.due("the first of these", x.trench(0, 2, 39, 1, 0), -100);
        x.put(0, 40, 99);
        Edges.due("behind them none is looked at", x.trench(0, 2, 0, 40, 1), 39);
        x.put(0, 39, 0);
        Edges.due("the last one again", x.trench(0, 2, 0, 40, 1), 39);
        x.put(0, 39, 2);
        Edges.due("is right now", x.trench(0, 2, 0, 40, 1), NONE);
    }

    private static void trenchFirstWrong() {
        Edges.says("section 2", "FIRST WRONG: the first that is no SOIL, or that is not next to the one ahead (of the first "
            + "one: is not in column 0)");
        ClayFort x = Edges.of("p33" + "110" + "111" + "111" + ";g220");
        trenchIsRight(x, 1, 0);
        trenchIsRight(x, 1, 6);
        trenchIsWrong(x, 0, 1);
        trenchIsWrong(x, 0, 1, 0);
        trenchIsWrong(x, 0, 8);
        trenchIsWrong(x, 2, 0, 1, 2);
        trenchIsWrong(x, 3, 3, 4, 5, 8);
        trenchIsWrong(x, 3, 6, 7, 4, 0);
        trenchIsWrong(x, 1, 0, 0);
        trenchIsWrong(x, 1, 0, 4);
        trenchIsWrong(x, 1, 0, 6);
        trenchIsWrong(x, 1, 0, 2);
        trenchIsWrong(x, 1, 3, 2);
        trenchIsWrong(x, 3, 3, 4, 5, 6);
        trenchIsWrong(x, 1, 0, 5, 8, 2);
        // There and back, and in column 0 again, is no fault.
        trenchIsRight(x, 3, 0, 1, 0, 3);
        trenchIsRight(x, 4, 0, 3, 6, 3, 4, 3, 0);
        x.soak(0, 0);
        trenchIsWrong(x, 0, 0, 1);
        x.haul(0, 3);
        trenchIsWrong(x, 0, 3, 4);
        x.hush(0, true);
        trenchIsWrong(x, 0, 3, 4);
        trenchIsWrong(x, 2, 6, 7, 2);
    }

    private static void trenchNights() {
        Edges.says("section 2", "Its NIGHTS: CLAY of all its CELLS that are not DUG, each once");
        ClayFort x = Edges.of("p33" + "129" + "456" + "781" + ";g220");
        trenchIs(x, new int[] {3, NONE, 0, 0, 2}, 0, 1, 0, 1, 0);
        trenchIs(x, new int[] {12, NONE, 0, 0, 3}, 0, 1, 2);
        x.dig(0);
        trenchIs(x, new int[] {11, NONE, 0, 0, 3}, 0, 1, 2);
        x.dig(1);
        x.dig(2);
        trenchIs(x, new int[] {0, NONE, 0, 0, 3}, 0, 1, 2);
        trenchIs(x, new int[] {6, NONE, 0, 0, 4}, 0, 1, 2, 5);
        x.soak(1, 9);
        trenchIs(x, new int[] {0, NONE, 0, 0, 2}, 0, 1);
        x.soak(1, 0);
        trenchIsWrong(x, 1, 0, 1);
        x.fill();
        x.soak(1, 2);
        trenchIs(x, new int[] {3, NONE, 0, 0, 2}, 0, 1);
    }

    private static void trenchShot() {
        Edges.says("promise 16", "how many of its CELLS are SHOT (2; each as often as it is told), GUNS that shoot (3)");
        ClayFort x = Edges.of("p33" + "111" + "111" + "111" + ";g201;g220;g220");
        trenchIs(x, new int[] {1, NONE, 0, 0, 1}, 0);
        trenchIs(x, new int[] {2, NONE, 1, 1, 2}, 0, 1);
        trenchIs(x, new int[] {2, NONE, 3, 1, 2}, 0, 1, 0, 1, 0, 1);
        x.charge(1, 1);
        trenchIs(x, new int[] {5, NONE, 4, 3, 5}, 0, 1, 4, 7, 4, 3);
        x.charge(2, 1);
        trenchIs(x, new int[] {2, NONE, 1, 6, 2}, 6, 7);
        // A cell that two guns shoot at is one that is shot.
        trenchIs(x, new int[] {3, NONE, 1, 7, 3}, 6, 3, 4);
        x.hush(0, true);
        trenchIs(x, new int[] {3, NONE, 1, 6, 3}, 6, 3, 4);
        x.hush(1, true);
        x.hush(2, true);
        trenchIs(x, new int[] {3, NONE, 0, 0, 3}, 6, 3, 4);
    }

    private static void trenchWhat() {
        Edges.says("promise 16", "of one with a FIRST WRONG: -100 less that (but what 1)");
        ClayFort x = open(3, 3);
        trenchIsWrong(x, 0, 2, 1, 0);
        trenchIsWrong(x, 1, 3, 5, 2);
        trenchIsWrong(x, 4, 0, 1, 4, 7, 8);
        Edges.due("no fault", x.fault(), 0);
        Edges.row(x, 0, 2, 8, 0, 1, 8);
        Edges.due("counted from i on", x.trench(0, 2, 1, 3, 1), 2);
        Edges.due("counted from i on", x.trench(0, 2, 1, 3, 0), -102);
    }

    private static void trenchCells() {
        Edges.says("promise 16", "UNKNOWN: a cell is no CELL");
        for (int lane = 0; lane < 3; lane++) {
            ClayFort x = open(6, 6);
            Edges.row(x, 0, lane, 0, 1, 36, 0);
            Edges.due("36", x.trench(0, lane, 0, 3, 1), UNKNOWN);
            Edges.due("36 behind a wrong one", x.trench(0, lane, 1, 2, 1), UNKNOWN);
            Edges.due("ahead of it", x.trench(0, lane, 0, 2, 0), 2);
            Edges.due("behind it", x.trench(0, lane, 3, 1, 0), 1);
            x.put(0, 2, 35);
            Edges.due("35 is one, but a gun's", x.trench(0, lane, 0, 3, 1), 2);
            x.put(0, 2, -1);
            Edges.due("-1", x.trench(0, lane, 0, 3, 1), UNKNOWN);
            Edges.due("refused, no fault", x.fault(), 0);
            x.put(0, 2, 256);
            Edges.due("256, a byte of it 0", x.trench(0, lane, 2, 1, 0), lane == 0 ? 1 : UNKNOWN);
            x.put(0, 2, 65536);
            Edges.due("65536, a short of it 0", x.trench(0, lane, 2, 1, 0), lane < 2 ? 1 : UNKNOWN);
            x.put(0, 2, Edges.LOW);
            Edges.due("the lowest, cut to 0 or not", x.trench(0, lane, 2, 1, 0), lane < 2 ? 1 : UNKNOWN);
        }
    }
}
