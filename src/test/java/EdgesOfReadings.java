/** The edges of section 4 and of promises 23 to 28. */
public final class EdgesOfReadings {
    private static final int UNKNOWN = Edges.UNKNOWN, OUTSIDE = Edges.OUTSIDE, FULL = Edges.FULL;
    private static final long LOST = Edges.LOST;
    private static final String ONES = "1".repeat(36);
    private static final int ALL_REACHES = 1023, ALL_KINDS = 7;

    /** A row of six and another; the gun in 0 looks along the row. */
    private static final String ROW = "p62" + ONES.substring(0, 12);

    /** Cell 5 is next to 3 and 7; a gun of reach 1 in 0 sees 2 and 3, one in 8 sees 6 and 7. */
    private static final String TWO_ENDS = "p25" + "00" + "11" + "01" + "11" + "00";

    public static void main(String[] args) {
        eightAtMost();
        numbers();
        readingChangesNothingElse();
        back();
        backTakesTheLast();
        reachesOfNoReadings();
        reachesAtTheEnds();
        reachesAlone();
        kinds();
        hauntsOfNoReadings();
        hauntsAnyCell();
        hauntsByWhatIsStopped();
        allReadings();
        noneIsSo();
        silentOnes();
        oddsNumbers();
        oddsEnds();
        oddsLeastTerms();
        oddsOfSilentOnes();
        Edges.end("EdgesOfReadings");
    }

    // ---- readings

    private static void eightAtMost() {
        Edges.says("section 4", "READINGS, 8 at most, each numbered by how many there are ahead of it (the first one 0)");
        ClayFort x = Edges.of("p66" + ONES + ";g000");
        for (int k = 0; k < 8; k++) {
            Edges.due("reading " + k, x.reading(k == 7 ? 35 : 0, false), k);
            Edges.due("how many", x.many(4), k + 1);
        }
        Edges.due("the ninth", x.reading(0, false), FULL);
        Edges.due("the ninth, of another", x.reading(35, true), FULL);
        Edges.due("of no cell", x.reading(36, true), UNKNOWN);
        Edges.due("how many", x.many(4), 8);
        Edges.due("it is none of them", x.reaches(0), ALL_REACHES & ~(1 << 5 | 1 << 6 | 1 << 7 | 1 << 8 | 1 << 9));
    }

    private static void numbers() {
        Edges.says("promise 23", "A READING: its number");
        ClayFort x = Edges.of(ROW + ";g000");
        Edges.due("cell 12", x.reading(12, false), UNKNOWN);
        Edges.due("cell -1", x.reading(-1, false), UNKNOWN);
        Edges.due("the first cell", x.reading(0, false), 0);
        Edges.due("the last cell", x.reading(11, false), 1);
        Edges.due("the same once more", x.reading(11, false), 2);
        x.back(2);
        Edges.due("its number again", x.reading(11, false), 1);
        for (int k = 2; k < 8; k++) {
            x.reading(0, false);
        }
        x.back(1);
        Edges.due("the eighth again", x.reading(0, false), 7);
        Edges.due("no ground", new ClayFort().reading(0, true), UNKNOWN);
    }

    private static void readingChangesNothingElse() {
        Edges.says("section 4", "a CELL was SHOT, or was not");
        ClayFort x = Edges.of(ROW + ";g001");
        x.reading(1, false);
        x.reading(5, true);
        Edges.due("shot still", x.shot(1), 1);
        Edges.due("not shot still", x.shot(5), 0);
        Edges.due("reach", x.ofGun(0, 2), 1);
    }

    private static void back() {
        Edges.says("promise 24", "The last k READINGS (0 .. as many as there are) are taken back: how many are left");
        ClayFort x = Edges.of(ROW + ";g000");
        Edges.due("0 of none", x.back(0), 0);
        Edges.due("1 of none", x.back(1), OUTSIDE);
        Edges.due("-1 of none", x.back(-1), OUTSIDE);
        for (int k = 0; k < 8; k++) {
            x.reading(k, false);
        }
        Edges.due("9 of eight", x.back(9), OUTSIDE);
        Edges.due("0 of eight", x.back(0), 8);
        Edges.due("1 of eight", x.back(1), 7);
        Edges.due("8 of seven", x.back(8), OUTSIDE);
        Edges.due("7 of seven", x.back(7), 0);
        Edges.due("none are left", x.many(4), 0);
        Edges.due("1 of none", x.back(1), OUTSIDE);
        Edges.due("no ground", new ClayFort().back(0), 0);
    }

    private static void backTakesTheLast() {
        Edges.says("promise 24", "The last k READINGS");
        ClayFort x = Edges.of(ROW + ";g003");
        x.reading(2, true);
        x.reading(3, true);
        x.reading(4, false);
        Edges.due("three", x.reaches(0), 8);
        x.back(1);
        Edges.due("two", x.reaches(0), 1016);
        x.back(1);
        Edges.due("one", x.reaches(0), 1020);
        x.back(1);
        Edges.due("none", x.reaches(0), ALL_REACHES);
    }

    // ---- reaches, kinds, haunts

    private static void reachesOfNoReadings() {
        Edges.says("section 4", "REACHES of a GUN: 0 .. 9 (no READINGS)");
        ClayFort x = Edges.of("p66" + ONES + ";g000;h009;m550;m559");
        for (int g = 0; g < 4; g++) {
            Edges.due("all", x.reaches(g), ALL_REACHES);
            Edges.due("all kinds", x.kinds(g), ALL_KINDS);
        }
        Edges.due("gun 4", x.reaches(4), UNKNOWN);
        Edges.due("gun -1", x.reaches(-1), UNKNOWN);
    }

    private static void reachesAtTheEnds() {
        Edges.says("section 4", "REACHES of a GUN: 0 .. 9 (the least, the most)");
        ClayFort x = Edges.of(ROW + ";g000");
        x.reading(1, false);
        Edges.due("a gun that sees nothing", x.reaches(0), 1);
        x.back(1);
        x.reading(1, true);
        Edges.due("a gun that sees something", x.reaches(0), 1022);
        x.back(1);
        x.reading(5, true);
        Edges.due("a gun that sees five off", x.reaches(0), 992);
        x = Edges.of(ROW + ";h000");
        x.reading(1, false);
        Edges.due("a howitzer that sees nothing", x.reaches(0), 0);
        x.back(1);
        x.reading(5, true);
        Edges.due("a howitzer that sees five off", x.reaches(0), 1008);
        x = Edges.of(ROW + ";m000");
        x.reading(5, true);
        Edges.due("a mortar that sees five off", x.reaches(0), 512);
        x.back(1);
        x.reading(5, false);
        Edges.due("a mortar that does not", x.reaches(0), 511);
        Edges.due("its reach is as it was", x.ofGun(0, 2), 0);
    }

    private static void reachesAlone() {
        Edges.says("section 4", "in place of what it is alone (the others as they are)");
        ClayFort x = Edges.of(ROW + ";g001;g511");
        x.reading(2, true);
        Edges.due("the one next to it", x.reaches(0), 1020);
        Edges.due("the other is too far off, whatever its reach", x.reaches(1), 0);
        x.charge(0, 2);
        Edges.due("now that it is so, any", x.reaches(1), ALL_REACHES);
        x.back(1);
        x.reading(3, false);
        x.charge(1, 0);
        Edges.due("not so far", x.reaches(0), 7);
        x.haul(1, 1);
        Edges.due("one between: any", x.reaches(0), ALL_REACHES);
        Edges.due("the one between", x.reaches(1), 3);
    }

    private static void kinds() {
        Edges.says("section 4", "KINDS of a GUN: 0 .. 2");
        ClayFort x = Edges.of(ROW + ";g004");
        Edges.due("no readings", x.kinds(0), ALL_KINDS);
        x.reading(3, true);
        Edges.due("four or more", x.kinds(0), 3);
        x.reading(5, false);
        Edges.due("no more than four", x.kinds(0), 1);
        x.back(2);
        x.reading(3, false);
        Edges.due("fewer than three", x.kinds(0), 4);
        x.back(1);
        x.reading(5, true);
        Edges.due("five", x.kinds(0), 2);
        Edges.due("its kind is as it was", x.ofGun(0, 0), 0);
        Edges.due("its reach is as it was", x.ofGun(0, 2), 4);
        x.charge(0, 0);
        Edges.due("none sees so far", x.kinds(0), 0);
        x.back(1);
        x.reading(1, true);
        Edges.due("with no reach a howitzer alone sees", x.kinds(0), 2);
        Edges.due("gun 1", x.kinds(1), UNKNOWN);
        Edges.due("gun -1", x.kinds(-1), UNKNOWN);
    }

    private static void hauntsOfNoReadings() {
        Edges.says("section 4", "HAUNTS of a GUN: CELLS in which it stands (no READINGS)");
        ClayFort x = Edges.of("p66" + "0".repeat(36) + ";g000;g550");
        Edges.due("all of the largest", x.haunts(0), (1L << 36) - 1);
        Edges.due("all of the largest", x.haunts(1), (1L << 36) - 1);
        Edges.due("gun 2", x.haunts(2), LOST);
        Edges.due("gun -1", x.haunts(-1), LOST);
        Edges.due("all of the smallest", Edges.of("p221111;m009").haunts(0), 15);
        Edges.due("no ground", new ClayFort().haunts(0), LOST);
    }

    private static void hauntsAnyCell() {
        Edges.says("section 4", "HAUNTS of a GUN: CELLS in which it stands (the last, water, another's)");
        ClayFort x = Edges.of("p66" + "0".repeat(36) + ";g001;g350");
        x.reading(34, true);
        Edges.due("about 34, not in it", x.haunts(0), Edges.bits(33, 35, 27, 28, 29));
        x.reading(35, false);
        Edges.due("not next to 35; where the other stands, too", x.haunts(0), Edges.bits(27, 33, 35));
        Edges.due("it stands as it did", x.ofGun(0, 1), 0);
        x.back(2);
        x.reading(35, true);
        x.reading(28, true);
        Edges.due("next to both", x.haunts(0), Edges.bits(29, 34));
    }

    private static void hauntsByWhatIsStopped() {
        Edges.says("section 4", "by which all READINGS are so (a GUN stops the sight of another)");
        ClayFort x = Edges.of(ROW + ";g009;g510");
        x.reading(4, false);
        Edges.due("between", x.haunts(1), Edges.bits(1, 2, 3));
        x.reading(3, true);
        Edges.due("in 3 itself", x.haunts(1), Edges.bits(3));
        x.hush(1, true);
        Edges.due("though silent", x.haunts(1), Edges.bits(3));
        x.back(2);
        x.reading(0, false);
        Edges.due("its own cell it never sees, nor does one of no reach", x.haunts(1), 4095);
        Edges.due("so the first stands in 0, or out of its lines", x.haunts(0) & 1, 1);
    }

    private static void allReadings() {
        Edges.says("section 4", "by which all READINGS are so (the first, the eighth)");
        for (int wrong = 0; wrong < 8; wrong++) {
            ClayFort x = Edges.of(ROW + ";g000");
            for (int k = 0; k < 8; k++) {
                x.reading(k == wrong ? 3 : 11, k == wrong);
            }
            Edges.due("that one is number " + wrong, x.reaches(0), 1016);
            Edges.due("no kind", x.kinds(0), 0);
            Edges.due("no cell", x.haunts(0), 0);
        }
    }

    private static void noneIsSo() {
        Edges.says("section 4", "as sets (of none: 0)");
        ClayFort x = Edges.of(ROW + ";g001;g500");
        x.reading(2, true);
        x.reading(2, false);
        for (int g = 0; g < 2; g++) {
            Edges.due("reaches", x.reaches(g), 0);
            Edges.due("kinds", x.kinds(g), 0);
            Edges.due("haunts", x.haunts(g), 0);
        }
    }

    private static void silentOnes() {
        Edges.says("section 1", "SHOT is a CELL that a GUN SEES that is not SILENT (of READINGS)");
        ClayFort x = Edges.of(ROW + ";g001;g501");
        x.reading(1, true);
        Edges.due("by 0", x.reaches(0), 1022);
        x.hush(0, true);
        Edges.due("not by a silent one", x.reaches(0), 0);
        Edges.due("nor whatever its kind", x.kinds(0), 0);
        Edges.due("nor wherever", x.haunts(0), 0);
        Edges.due("the other, four off", x.reaches(1), 1008);
        x.back(1);
        x.reading(1, false);
        Edges.due("a silent one, any", x.reaches(0), 1023);
        Edges.due("the other, nearer", x.reaches(1), 15);
    }

    // ---- odds

    private static void oddsAre(ClayFort x, int c, int upper, int lower) {
        Edges.due("upper of " + c, x.odds(c, 0), upper);
        Edges.due("lower of " + c, x.odds(c, 1), lower);
    }

    private static void oddsNumbers() {
        Edges.says("promise 28", "(which 0 the upper, 1 the lower number). LOST: UNKNOWN; OUTSIDE");
        ClayFort x = Edges.of("p66" + ONES + ";g550");
        for (int which : new int[] {-1, 2, Edges.LOW, Edges.TOP}) {
            Edges.due("which " + which, x.odds(0, which), LOST);
        }
        for (int c : new int[] {-1, 36, Edges.LOW, Edges.TOP}) {
            Edges.due("cell " + c, x.odds(c, 0), LOST);
        }
        oddsAre(x, 34, 1, 1);
        Edges.due("no ground", new ClayFort().odds(0, 0), LOST);
    }

    private static void oddsEnds() {
        Edges.says("Terms", "upper and lower number (above 0) in least terms: 0 and 1, 1 and 1");
        String text = "p33" + ONES.substring(0, 9);
        for (int guns = 1; guns <= 4; guns++) {
            text += ";g220";
            ClayFort x = Edges.of(text);
            oddsAre(x, 8, 0, 1);
            oddsAre(x, 0, 1, 1);
            x.soak(0, 0);
            oddsAre(x, 0, 0, 1);
        }
    }

    private static void oddsLeastTerms() {
        Edges.says("section 4", "if each GUN becomes so, or does not, all such sets alike: the share");
        ClayFort x = Edges.of("p55" + ONES.substring(0, 25) + ";g004;g404;g044;g444");
        oddsAre(x, 12, 1, 16);
        // Of the sets of all four those of the two that see column 0: 4 of 16.
        oddsAre(x, 11, 1, 4);
        oddsAre(Edges.of(TWO_ENDS + ";g001"), 3, 1, 2);
        oddsAre(Edges.of(TWO_ENDS + ";g001;g041"), 3, 1, 2);
        oddsAre(Edges.of(TWO_ENDS + ";g001;g041;g040;g040"), 3, 1, 2);
        oddsAre(Edges.of(TWO_ENDS + ";g001;g041"), 5, 3, 4);
        oddsAre(Edges.of(TWO_ENDS + ";g001;g041;g040;g040"), 5, 3, 4);
        oddsAre(Edges.of(TWO_ENDS + ";g001;g001;g041"), 5, 5, 8);
        oddsAre(Edges.of(TWO_ENDS + ";g001;g001;g001"), 3, 1, 8);
        oddsAre(Edges.of(TWO_ENDS + ";g001;g001;g041;g041"), 5, 7, 16);
        oddsAre(Edges.of(TWO_ENDS + ";g001;g041;g041;g041"), 5, 9, 16);
    }

    private static void oddsOfSilentOnes() {
        Edges.says("section 4", "each GUN that is not SILENT");
        ClayFort x = Edges.of("p55" + ONES.substring(0, 25) + ";g004;g404;g044;g444");
        for (int g = 3; g >= 0; g--) {
            x.hush(g, true);
            oddsAre(x, 12, 1, 1 << g);
        }
        oddsAre(x, 0, 0, 1);
        for (int g = 0; g < 4; g++) {
            Edges.due("silent " + g, x.ofGun(g, 4), 1);
        }
        x.hush(2, false);
        oddsAre(x, 12, 1, 2);
        for (int g = 0; g < 4; g++) {
            Edges.due("silent " + g, x.ofGun(g, 4), g == 2 ? 0 : 1);
        }
    }
}
