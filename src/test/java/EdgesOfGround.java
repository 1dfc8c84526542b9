/** The edges of section 1 (a TEXT, its FIRST FAULT, RANGE, kinds) and of promises 1 to 8. */
public final class EdgesOfGround {
    private static final int UNKNOWN = Edges.UNKNOWN;
    private static final String ONES = "1".repeat(36);
    /** The longest text there is: 59 codes. */
    private static final String LARGEST = "p66" + "9".repeat(36) + ";g000;h559;m509;g050";
    /** The shortest: 12 codes. */
    private static final String SMALLEST = "p220123;g000";

    public static void main(String[] args) {
        newObject();
        head();
        sizes();
        digitsOfCells();
        numbersOfCells();
        howManyGuns();
        lettersOfGuns();
        columnsAndRowsOfGuns();
        reachesOfGuns();
        severalInOneCell();
        endsTooSoon();
        oneTooMany();
        firstOfSeveral();
        placesAreOfTheText();
        codesBeyondBytes();
        allAnew();
        anewOfAnotherSize();
        anewOfFewerGuns();
        notTaken();
        ranges();
        ofGun();
        clayAndSoak();
        charge();
        hush();
        haul();
        Edges.end("EdgesOfGround");
    }

    // ---- helpers

    /** On a new object, in each lane. */
    private static void answers(String text, int want) {
        for (int lane = 0; lane < 3; lane++) {
            Edges.due("ground of '" + text + "' in lane " + lane, Edges.ground(new ClayFort(), 0, lane, text), want);
        }
    }

    private static void faultAt(String text, int place) {
        answers(text, -100 - place);
    }

    // ---- texts

    private static void newObject() {
        Edges.says("promise 1", "No GROUND (no CELLS, GUNS), SHEETS have nothing");
        ClayFort x = new ClayFort();
        for (int what = 0; what < 5; what++) {
            Edges.due("many " + what, x.many(what), 0);
        }
        Edges.due("clay 0", x.clay(0), UNKNOWN);
        Edges.due("ofGun 0", x.ofGun(0, 0), UNKNOWN);
        for (int k = 0; k < 4; k++) {
            Edges.due("lose " + k, x.lose(k), 0);
        }
        Edges.due("trace", x.trace(), 0);
        Edges.due("fault", x.fault(), 0);
    }

    private static void head() {
        Edges.says("section 1", "p");
        for (char code : new char[] {'o', 'q', 'P', ';', '2', 'g'}) {
            faultAt(code + "220123;g000", 0);
        }
        faultAt("p", 1);
    }

    private static void sizes() {
        Edges.says("section 1", "a digit 2 .. 6 (WIDE), a digit 2 .. 6 (HIGH)");
        for (char wrong : new char[] {'/', '0', '1', '7', '8', '9', ':', 'p', ';'}) {
            faultAt("p" + wrong + "2" + ONES, 1);
            faultAt("p2" + wrong + ONES, 2);
            faultAt("p6" + wrong + ONES, 2);
        }
        for (int wide = 2; wide <= 6; wide++) {
            faultAt("p" + wide, 2);
            for (int high = 2; high <= 6; high++) {
                int cells = wide * high;
                String head = "p" + wide + high;
                faultAt(head, 3);
                faultAt(head + ONES.substring(0, cells - 1) + ";", 2 + cells);
                faultAt(head + ONES.substring(0, cells) + "1", 3 + cells);
                answers(head + ONES.substring(0, cells) + ";g000", 1);
                ClayFort x = Edges.of(head + ONES.substring(0, cells - 1) + "7;g" + (wide - 1) + (high - 1) + "0");
                Edges.due("wide", x.many(1), wide);
                Edges.due("high", x.many(2), high);
                Edges.due("clay of the last cell", x.clay(cells - 1), 7);
                Edges.due("clay behind it", x.clay(cells), UNKNOWN);
                Edges.due("cell of the last column and row", x.ofGun(0, 1), cells - 1);
            }
        }
    }

    private static void digitsOfCells() {
        Edges.says("section 1", "as many digits 0 .. 9 as WIDE times HIGH");
        for (char wrong : new char[] {'/', ':', ';', 'p', 'g'}) {
            for (int at = 0; at < 4; at++) {
                StringBuilder b = new StringBuilder("p221111;g000");
                b.setCharAt(3 + at, wrong);
                faultAt(b.toString(), 3 + at);
            }
        }
        ClayFort x = Edges.of("p520123456789;g000");
        for (int c = 0; c < 10; c++) {
            Edges.due("clay " + c, x.clay(c), c);
        }
    }

    private static void numbersOfCells() {
        Edges.says("section 1", "CELL c is in column c modulo WIDE, in row c by WIDE");
        for (int c = 0; c < 36; c++) {
            ClayFort x = Edges.of("p66" + ONES + ";g" + c % 6 + c / 6 + "0");
            Edges.due("cell of a gun", x.ofGun(0, 1), c);
        }
        ClayFort x = Edges.of("p62" + ONES.substring(0, 12) + ";g500;g010");
        Edges.due("end of row 0", x.ofGun(0, 1), 5);
        Edges.due("begin of row 1", x.ofGun(1, 1), 6);
    }

    private static void howManyGuns() {
        Edges.says("section 1", "then 1 to 4 GUNS, numbered from 0 on");
        faultAt("p221111", 7);
        String text = "p221111";
        for (int guns = 1; guns <= 4; guns++) {
            text += ";g000";
            answers(text, guns);
            ClayFort x = Edges.of(text);
            Edges.due("many guns", x.many(0), guns);
            Edges.due("the last one's reach", x.ofGun(guns - 1, 2), 0);
            Edges.due("none behind it", x.ofGun(guns, 2), UNKNOWN);
        }
        faultAt(text + ";", 27);
        faultAt(text + ";g000", 27);
    }

    private static void lettersOfGuns() {
        Edges.says("section 1", "Kinds: 0 GUN (g); 1 HOWITZER (h); 2 MORTAR (m)");
        ClayFort x = Edges.of("p221111;g000;h000;m000");
        for (int g = 0; g < 3; g++) {
            Edges.due("kind of " + g, x.ofGun(g, 0), g);
        }
        for (char wrong : new char[] {'f', 'i', 'l', 'n', 'G', 'H', 'M', 'p', ';', '0'}) {
            faultAt("p221111;" + wrong + "000", 8);
            faultAt("p221111;g000;h000;m000;" + wrong + "000", 23);
        }
        for (char wrong : new char[] {':', '<', '0', 'g'}) {
            faultAt("p221111" + wrong + "g000", 7);
            faultAt("p221111;g000" + wrong + "g000", 12);
        }
    }

    private static void columnsAndRowsOfGuns() {
        Edges.says("section 1", "a digit (its column), a digit (its row)");
        for (int size = 2; size <= 6; size++) {
            String wide = "p" + size + "2" + ONES.substring(0, 2 * size);
            String high = "p2" + size + ONES.substring(0, 2 * size);
            int end = 3 + 2 * size;
            answers(wide + ";g" + (size - 1) + "10", 1);
            answers(high + ";g1" + (size - 1) + "0", 1);
            faultAt(wide + ";g" + size + "10", end + 2);
            faultAt(high + ";g1" + size + "0", end + 3);
            for (char wrong : new char[] {'/', ':', '9', ';'}) {
                faultAt(wide + ";g" + wrong + "10", end + 2);
                faultAt(high + ";g1" + wrong + "0", end + 3);
            }
        }
        // The fourth gun's no less than the first one's.
        faultAt("p221111;g000;g000;g000;g200", 24);
        faultAt("p221111;g000;g000;g000;g020", 25);
    }

    private static void reachesOfGuns() {
        Edges.says("section 1", "a digit 0 .. 9 (REACH)");
        for (int v = 0; v <= 9; v++) {
            Edges.due("reach", Edges.of("p221111;g00" + v).ofGun(0, 2), v);
        }
        for (char wrong : new char[] {'/', ':', ';', 'g'}) {
            faultAt("p221111;g00" + wrong, 11);
        }
    }

    private static void severalInOneCell() {
        Edges.says("section 1", "Several may stand in one CELL");
        ClayFort x = Edges.of("p221111;g110;h111;m112;g113");
        for (int g = 0; g < 4; g++) {
            Edges.due("cell of " + g, x.ofGun(g, 1), 3);
        }
    }

    // ---- first faults

    private static void endsTooSoon() {
        Edges.says("section 1", "FIRST FAULT: how many codes there are, if it just ends too soon");
        for (int n = 0; n <= LARGEST.length(); n++) {
            boolean isWhole = n >= 44 && (n - 39) % 5 == 0;
            answers(LARGEST.substring(0, n), isWhole ? (n - 39) / 5 : -100 - n);
        }
        for (int n = 0; n < SMALLEST.length(); n++) {
            faultAt(SMALLEST.substring(0, n), n);
        }
    }

    private static void oneTooMany() {
        Edges.says("section 1", "FIRST FAULT: (the digit of a CELL too many, the ; of a fifth GUN)");
        faultAt("p2211111;g000", 7);
        faultAt("p66" + ONES + "1;g000", 39);
        faultAt("p221111;g000;g000;g000;g000;", 27);
        faultAt(LARGEST + ";", 59);
        // Behind a gun goes on nothing but the ; of another.
        faultAt("p221111;g0000", 12);
        faultAt("p221111;g000g", 12);
        faultAt(LARGEST + "0", 59);
    }

    private static void firstOfSeveral() {
        Edges.says("section 1", "FIRST FAULT: the place of the first code with which no TEXT goes on");
        faultAt("q11", 0);
        faultAt("p17:", 1);
        faultAt("p27:", 2);
        faultAt("p22:::;x", 3);
        faultAt("p221111:x99:", 7);
        faultAt("p221111;x99:", 8);
        faultAt("p221111;g99:", 9);
        faultAt("p221111;g09:", 10);
        faultAt("p221111;g00:", 11);
    }

    private static void placesAreOfTheText() {
        Edges.says("promise 2", "A GROUND by a TEXT of n cells of a SHEET from i on");
        ClayFort x = new ClayFort();
        String row = "pp" + SMALLEST + ";g";
        Edges.due("from 0 on", Edges.ground(x, 0, 1, row), -101);
        Edges.due("from 2 on", x.ground(0, 1, 2, 12), 1);
        Edges.due("one too many", x.ground(0, 1, 2, 13), -113);
        Edges.due("one too few", x.ground(0, 1, 2, 11), -111);
        Edges.due("to the end", x.ground(0, 1, 2, 14), -114);
        Edges.due("beyond the end", x.ground(0, 1, 2, 15), Edges.INDEX);
        Edges.due("from 1 on", x.ground(0, 1, 1, 12), -101);
        Edges.due("from 3 on", x.ground(0, 1, 3, 12), -100);
        Edges.due("none from 2 on", x.ground(0, 1, 2, 0), -100);
        x.sheet(1, 1, 60);
        x.copy(0, 2, 1, 48, 12);
        Edges.due("the last twelve of sixty", x.ground(1, 1, 48, 12), 1);
        Edges.due("the last twelve and one", x.ground(1, 1, 48, 13), Edges.INDEX);
    }

    private static void codesBeyondBytes() {
        Edges.says("section 5", "what comes to a cell of it is cut to its LANE");
        for (int lane = 0; lane < 3; lane++) {
            ClayFort x = new ClayFort();
            Edges.ground(x, 0, lane, SMALLEST);
            x.put(0, 0, 'p' + 256);
            Edges.due("p and 256", x.ground(0, lane, 0, 12), lane == 0 ? 1 : -100);
            x.put(0, 0, 'p' + 65536);
            Edges.due("p and 65536", x.ground(0, lane, 0, 12), lane < 2 ? 1 : -100);
            x.put(0, 0, 'p');
            for (int k = 0; k < 12; k++) {
                int code = SMALLEST.charAt(k);
                for (int wrong : new int[] {0, -code, -1, Edges.LOW, Edges.TOP}) {
                    x.put(0, k, wrong);
                    Edges.due(wrong + " in place " + k, x.ground(0, lane, 0, 12), -100 - k);
                }
                x.put(0, k, code);
            }
            Edges.due("all as they were", x.ground(0, lane, 0, 12), 1);
        }
    }

    private static void allAnew() {
        Edges.says("section 1", "A TEXT that is taken makes all anew, but for SHEETS and TRACE");
        ClayFort x = Edges.of("p66" + ONES + ";g550;g550;g550;g550");
        for (int g = 0; g < 4; g++) {
            x.hush(g, true);
        }
        x.dig(0);
        x.dig(1);
        x.dig(30);
        for (int k = 0; k < 8; k++) {
            x.reading(k, false);
        }
        x.tell(0);
        x.soak(1, 9);
        Edges.row(x, 0, 0, 5, 6);
        Edges.due("a smaller one", Edges.ground(x, 3, 0, "p221111;g110;g110"), 2);
        int[] due = {2, 2, 2, 0, 0};
        for (int what = 0; what < 5; what++) {
            Edges.due("many " + what, x.many(what), due[what]);
        }
        Edges.due("fewer cells", x.clay(4), UNKNOWN);
        Edges.due("other clay", x.clay(1), 1);
        Edges.due("fewer guns", x.ofGun(2, 0), UNKNOWN);
        for (int g = 0; g < 2; g++) {
            Edges.due("silent " + g, x.ofGun(g, 4), 0);
        }
        for (int c = 0; c < 4; c++) {
            Edges.due("dug " + c, x.is(c, 1), 0);
        }
        Edges.due("trace", x.trace(), 1);
        Edges.due("sheets", x.cell(0, 1, 0), 6);
        Edges.due("the text's sheet", x.cell(3, 0, 0), 'p');
        Edges.due("readings from 0 on", x.reading(0, true), 0);
        Edges.due("a larger one", Edges.ground(x, 3, 0, LARGEST), 4);
        Edges.due("nothing silent", x.ofGun(3, 4), 0);
        Edges.due("nothing dug", x.fill(), 0);
        Edges.due("no readings", x.many(4), 0);
    }

    private static void anewOfAnotherSize() {
        Edges.says("section 1", "makes all anew: columns and rows, too");
        for (int size : new int[] {26, 66, 22, 55}) {
            String before = "p" + size + ONES.substring(0, size / 10 * (size % 10));
            ClayFort x = Edges.of(before + ";g000");
            Edges.ground(x, 0, 0, "p62" + ONES.substring(0, 12) + ";g000");
            for (int c : new int[] {1, 2, 3, 4, 5, 8, 10}) {
                Edges.due("not in column 0: " + c, x.dig(c), Edges.STATE);
            }
            Edges.due("cells of the sap to 2", x.sap(2, -1), 4);
            Edges.due("in column 0", x.dig(6), 1);
            for (int c = 7; c < 12; c++) {
                Edges.due("next to the one ahead: " + c, x.dig(c), 1);
            }
            Edges.ground(x, 0, 0, "p33" + ONES.substring(0, 9) + ";g220");
            Edges.due("not in column 0", x.dig(2), Edges.STATE);
            for (int c : new int[] {0, 1, 2, 3, 6, 7}) {
                Edges.due("in column 0, or next to one: " + c, x.dig(c), 1);
            }
            Edges.due("nights of the breach, by way of 7", x.breach(0), 0);
        }
    }

    private static void anewOfFewerGuns() {
        Edges.says("section 1", "makes all anew: of earlier GUNS none is left");
        ClayFort x = Edges.of("p66" + ONES + ";m009;m009;m009;m009");
        Edges.ground(x, 0, 0, "p44" + ONES.substring(0, 16) + ";g330");
        for (int c = 0; c < 16; c++) {
            Edges.due("shot " + c, x.shot(c), 0);
            Edges.due("soil " + c, x.is(c, 0), c == 15 ? 0 : 1);
        }
        Edges.due("bare", x.bare(), 1);
        Edges.due("cover", x.cover(0), 0);
        // A post is of kind 0 and reach 2, whatever stood in its place: from 9 on it sees 7, and the way is 6 7 1.
        Edges.ground(x, 0, 0, "p62" + "011111" + "111111" + ";g000");
        Edges.due("it shuts the way", x.post(1, 0), 9);
        Edges.due("no nights", x.post(1, 1), Edges.NONE);
    }

    private static void notTaken() {
        Edges.says("section 1", "A TEXT that is taken makes all anew (one that is not, nothing)");
        ClayFort x = Edges.of("p33" + "1".repeat(9) + ";g220");
        x.hush(0, true);
        x.dig(0);
        x.reading(0, false);
        // Its fault comes only behind a whole ground and four guns.
        Edges.due("too long", Edges.ground(x, 0, 0, "p22" + "2222" + ";g111;g111;g111;g111;"), -127);
        int[] due = {1, 3, 3, 1, 1};
        for (int what = 0; what < 5; what++) {
            Edges.due("many " + what, x.many(what), due[what]);
        }
        Edges.due("clay", x.clay(8), 1);
        int[] dueOfGun = {0, 8, 0, 0, 1};
        for (int what = 0; what < 5; what++) {
            Edges.due("ofGun " + what, x.ofGun(0, what), dueOfGun[what]);
        }
        ClayFort y = new ClayFort();
        Edges.due("on a new object", Edges.ground(y, 0, 0, "p221111;g00"), -111);
        Edges.due("still no ground", y.bare(), Edges.STATE);
        Edges.due("no cells", y.clay(0), UNKNOWN);
        Edges.due("not wide", y.many(1), 0);
    }

    // ---- guns and clay

    private static void ranges() {
        Edges.says("section 1", "RANGE: of a GUN REACH; of a HOWITZER 1 more; of a MORTAR half (Quotients are cut)");
        ClayFort x = Edges.of("p221111;g000;h000;m000");
        int[] ofMortar = {0, 1, 1, 2, 2, 3, 3, 4, 4, 5};
        for (int v = 0; v <= 9; v++) {
            for (int g = 0; g < 3; g++) {
                x.charge(g, v);
            }
            Edges.due("gun's", x.ofGun(0, 3), v);
            Edges.due("howitzer's", x.ofGun(1, 3), v + 1);
            Edges.due("mortar's", x.ofGun(2, 3), ofMortar[v]);
        }
    }

    private static void ofGun() {
        Edges.says("promise 3", "0 kind, 1 the CELL, 2 REACH, 3 RANGE, 4 whether it is SILENT (1, 0)");
        ClayFort x = Edges.of("p66" + ONES + ";g000;h550;m509;g059");
        int[][] due = {{0, 0, 0, 0, 0}, {1, 35, 0, 1, 0}, {2, 5, 9, 5, 0}, {0, 30, 9, 9, 0}};
        for (int silent = 0; silent < 2; silent++) {
            for (int g = 0; g < 4; g++) {
                for (int what = 0; what < 4; what++) {
                    Edges.due(g + " " + what, x.ofGun(g, what), due[g][what]);
                }
                Edges.due(g + " silent", x.ofGun(g, 4), silent);
                x.hush(g, true);
            }
        }
        Edges.due("what -1", x.ofGun(0, -1), Edges.OUTSIDE);
        Edges.due("what 5", x.ofGun(0, 5), Edges.OUTSIDE);
        Edges.due("gun 4", x.ofGun(4, 0), UNKNOWN);
    }

    private static void clayAndSoak() {
        Edges.says("promise 5", "CLAY of a CELL becomes v (0 .. 9): what it was");
        ClayFort x = Edges.of("p66" + ONES + ";g550");
        for (int c : new int[] {0, 34, 35}) {
            Edges.due("to 0", x.soak(c, 0), 1);
            Edges.due("0", x.clay(c), 0);
            Edges.due("0 is no soil", x.is(c, 0), 0);
            Edges.due("to 9", x.soak(c, 9), 0);
            Edges.due("9", x.clay(c), 9);
            Edges.due("to 9 again", x.soak(c, 9), 9);
            Edges.due("9 is soil, but for a gun's", x.is(c, 0), c == 35 ? 0 : 1);
            Edges.due("10", x.soak(c, 10), Edges.OUTSIDE);
            Edges.due("-1", x.soak(c, -1), Edges.OUTSIDE);
            Edges.due("9 still", x.clay(c), 9);
        }
        Edges.due("clay 36", x.clay(36), UNKNOWN);
        Edges.due("clay -1", x.clay(-1), UNKNOWN);
        x.soak(0, 1);
        x.dig(0);
        x.soak(0, 9);
        Edges.due("a dug one is dug still", x.is(0, 1), 1);
        Edges.due("and takes no nights", x.sap(0, -2), 0);
    }

    private static void charge() {
        Edges.says("promise 6", "REACH of a GUN becomes v (0 .. 9): what it was");
        ClayFort x = Edges.of("p66" + ONES + ";g555;h555;m555;g555");
        for (int g = 0; g < 4; g++) {
            Edges.due("to 0", x.charge(g, 0), 5);
            Edges.due("to 9", x.charge(g, 9), 0);
            Edges.due("10", x.charge(g, 10), Edges.OUTSIDE);
            Edges.due("-1", x.charge(g, -1), Edges.OUTSIDE);
            Edges.due("9 still", x.ofGun(g, 2), 9);
        }
        Edges.due("gun 4", x.charge(4, 0), UNKNOWN);
        Edges.due("gun -1", x.charge(-1, 0), UNKNOWN);
    }

    private static void hush() {
        Edges.says("promise 7", "A GUN becomes SILENT, or no longer is: whether it was (1, 0)");
        ClayFort x = Edges.of("p66" + ONES + ";g555;h555;m555;g555");
        for (int g = 0; g < 4; g++) {
            Edges.due("was", x.hush(g, true), 0);
            Edges.due("was", x.hush(g, true), 1);
            for (int other = 0; other < 4; other++) {
                Edges.due("silent " + other, x.ofGun(other, 4), other == g ? 1 : 0);
            }
            Edges.due("was", x.hush(g, false), 1);
            Edges.due("was", x.hush(g, false), 0);
        }
        Edges.due("gun 4", x.hush(4, true), UNKNOWN);
        Edges.due("gun -1", x.hush(-1, true), UNKNOWN);
    }

    private static void haul() {
        Edges.says("promise 8", "A GUN goes to a CELL: where it was");
        ClayFort x = Edges.of("p66" + "0" + ONES.substring(1) + ";g550;g550;g550;g110");
        Edges.due("to the first cell, water", x.haul(3, 0), 7);
        Edges.due("to the last, where others are", x.haul(3, 35), 0);
        Edges.due("to where it is", x.haul(3, 35), 35);
        Edges.due("it stands", x.ofGun(3, 1), 35);
        Edges.due("to 36", x.haul(3, 36), UNKNOWN);
        Edges.due("to -1", x.haul(3, -1), UNKNOWN);
        Edges.due("gun 4", x.haul(4, 0), UNKNOWN);
        Edges.due("gun -1", x.haul(-1, 0), UNKNOWN);
        Edges.due("it stands still", x.ofGun(3, 1), 35);
        x.dig(6);
        Edges.due("to a dug cell", x.haul(0, 6), 35);
        Edges.due("that is dug", x.is(6, 1), 1);
        Edges.due("but no soil", x.is(6, 0), 0);
        Edges.due("away", x.haul(0, 7), 6);
        Edges.due("soil again", x.is(6, 0), 1);
    }
}
