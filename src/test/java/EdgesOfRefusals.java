/** Refusals and faults: which of several comes first, what is answered, what fault() tells, and that nothing changes. */
public final class EdgesOfRefusals {
    private static final int UNKNOWN = Edges.UNKNOWN, OUTSIDE = Edges.OUTSIDE, STATE = Edges.STATE, FULL = Edges.FULL;
    private static final int NULL = Edges.NULL, CAST = Edges.CAST, INDEX = Edges.INDEX, SIZE = Edges.SIZE;
    private static final int LOW = Edges.LOW, TOP = Edges.TOP;
    private static final long LOST = Edges.LOST;
    /** The call names no faults: fault() tells what it told ahead of it. */
    private static final int STAYS = -1;
    private static final int FAULT_AHEAD = 4;

    /*
     *  1  2  3       g0 in 8 (reach 1) sees 4 5 7; h1 in 0 (range 2, silent) sees 1 2 3 4 6 8.
     *  0  4  5       Dug: 6. Eight readings.
     *  6  7  8
     */
    private static final String TEXT = "p33123045678;g221;h001";

    private interface Call {
        long on(ClayFort x);
    }

    private static String busyLook;
    private static String newLook;

    public static void main(String[] args) {
        busyLook = look(busy());
        newLook = look(fresh());
        unknownGun();
        unknownCell();
        unknownSheet();
        outside();
        outsideOfSheets();
        state();
        full();
        faults();
        faultsOfNoCellsTaken();
        inOrder();
        inOrderOfFaults();
        ofNewObject();
        firstFaultIsNoFault();
        Edges.end("EdgesOfRefusals");
    }

    // ---- helpers

    private static ClayFort fresh() {
        ClayFort x = new ClayFort();
        x.sheet(0, 0, -1);
        return x;
    }

    private static ClayFort busy() {
        ClayFort x = new ClayFort();
        Edges.row(x, 0, 0, 1, 2, 3, 4, 5);
        Edges.row(x, 1, 1, 6, 7, 8, 9);
        Edges.ground(x, 3, 2, TEXT);
        x.hush(1, true);
        x.dig(6);
        int[] shot = {4, 5, 7};
        int[] notShot = {6, 1, 2, 3, 0};
        for (int c : shot) {
            x.reading(c, true);
        }
        for (int c : notShot) {
            x.reading(c, false);
        }
        x.tell(0);
        x.sheet(0, 0, -1);
        return x;
    }

    /** All that can be asked for; asking spoils the object. */
    private static String look(ClayFort x) {
        StringBuilder b = new StringBuilder().append(x.trace());
        for (int what = 0; what < 5; what++) {
            b.append(' ').append(x.many(what));
        }
        for (int c = 0; c < 9; c++) {
            b.append(' ').append(x.clay(c)).append(' ').append(x.is(c, 0)).append(' ').append(x.is(c, 1));
        }
        for (int g = 0; g < 2; g++) {
            for (int what = 0; what < 5; what++) {
                b.append(' ').append(x.ofGun(g, what));
            }
        }
        for (int k = 0; k < 4; k++) {
            for (int lane = 0; lane < 3; lane++) {
                for (int i = 0; i < 60 && x.cell(k, i, lane) != LOST; i++) {
                    b.append(' ').append(x.cell(k, i, lane));
                }
                b.append(" of ").append(lane);
            }
            b.append(" had ").append(x.lose(k));
        }
        for (int left = 8; left > 0 && x.many(4) > 0; left--) {
            b.append(' ').append(x.reaches(0)).append(' ').append(x.kinds(1)).append(' ').append(x.haunts(0));
            b.append(" left ").append(x.back(1));
        }
        return b.toString();
    }

    private static void refused(String name, long due, int fault, Call call) {
        refusedOf(busy(), busyLook, name, due, fault, call);
    }

    private static void refusedOfNew(String name, long due, int fault, Call call) {
        refusedOf(fresh(), newLook, name, due, fault, call);
    }

    private static void refusedOf(ClayFort x, String look, String name, long due, int fault, Call call) {
        Edges.due(name, call.on(x), due);
        Edges.due("fault after " + name, x.fault(), fault == STAYS ? FAULT_AHEAD : fault);
        Edges.due("nothing is changed by " + name, look(x).equals(look) ? 1 : 0, 1);
    }

    // ---- each refusal alone

    private static void unknownGun() {
        Edges.says("Terms", "UNKNOWN (there is no such GUN ..)");
        for (int g : new int[] {-1, 2, 3, 4, 32, LOW, TOP}) {
            refused("ofGun " + g, UNKNOWN, STAYS, x -> x.ofGun(g, 0));
            refused("charge " + g, UNKNOWN, STAYS, x -> x.charge(g, 1));
            refused("hush " + g, UNKNOWN, STAYS, x -> x.hush(g, true));
            refused("haul " + g, UNKNOWN, STAYS, x -> x.haul(g, 1));
            refused("sees " + g, LOST, STAYS, x -> x.sees(g));
            refused("cover " + g, UNKNOWN, STAYS, x -> x.cover(g));
            refused("breach " + g, UNKNOWN, STAYS, x -> x.breach(g));
            refused("reaches " + g, UNKNOWN, STAYS, x -> x.reaches(g));
            refused("kinds " + g, UNKNOWN, STAYS, x -> x.kinds(g));
            refused("haunts " + g, LOST, STAYS, x -> x.haunts(g));
            refused("tell " + g, UNKNOWN, STAYS, x -> x.tell(g));
            refused("fire " + g, UNKNOWN, STAYS, x -> x.fire(g));
            refused("as " + g, UNKNOWN, 0, x -> x.as(g, 0));
        }
    }

    private static void unknownCell() {
        Edges.says("Terms", "UNKNOWN (there is no such .. CELL ..)");
        for (int c : new int[] {-1, 9, 35, 36, 64, LOW, TOP}) {
            refused("clay " + c, UNKNOWN, STAYS, x -> x.clay(c));
            refused("soak " + c, UNKNOWN, STAYS, x -> x.soak(c, 1));
            refused("haul to " + c, UNKNOWN, STAYS, x -> x.haul(0, c));
            refused("shot " + c, UNKNOWN, STAYS, x -> x.shot(c));
            refused("is " + c, UNKNOWN, STAYS, x -> x.is(c, 0));
            refused("dig " + c, UNKNOWN, STAYS, x -> x.dig(c));
            refused("sap " + c, UNKNOWN, STAYS, x -> x.sap(c, -1));
            refused("rush " + c, UNKNOWN, STAYS, x -> x.rush(c, -1));
            refused("silence " + c, UNKNOWN, STAYS, x -> x.silence(c));
            refused("post " + c, UNKNOWN, STAYS, x -> x.post(c, 0));
            refused("reading " + c, UNKNOWN, STAYS, x -> x.reading(c, true));
            refused("odds " + c, LOST, STAYS, x -> x.odds(c, 0));
        }
    }

    private static void unknownSheet() {
        Edges.says("Terms", "UNKNOWN (there is no such .. SHEET ..)");
        for (int k : new int[] {-1, 4, LOW, TOP}) {
            refused("ground " + k, UNKNOWN, 0, x -> x.ground(k, 2, 0, 22));
            refused("trench " + k, UNKNOWN, 0, x -> x.trench(k, 2, 0, 1, 0));
            refused("sheet " + k, UNKNOWN, 0, x -> x.sheet(k, 0, 1));
            refused("lose " + k, UNKNOWN, STAYS, x -> x.lose(k));
            refused("put " + k, UNKNOWN, 0, x -> x.put(k, 0, 9));
            refused("cell " + k, LOST, 0, x -> x.cell(k, 0, 0));
            refused("copy " + k, UNKNOWN, 0, x -> x.copy(k, 0, 0, 0, 1));
            refused("copy to " + k, UNKNOWN, 0, x -> x.copy(0, 0, k, 0, 1));
        }
    }

    private static void outside() {
        Edges.says("Terms", "OUTSIDE (another number is not as told)");
        for (int v : new int[] {-1, LOW, TOP}) {
            refused("ofGun what " + v, OUTSIDE, STAYS, x -> x.ofGun(0, v));
            refused("soak " + v, OUTSIDE, STAYS, x -> x.soak(0, v));
            refused("charge " + v, OUTSIDE, STAYS, x -> x.charge(0, v));
            refused("is what " + v, OUTSIDE, STAYS, x -> x.is(0, v));
            refused("day what " + v, OUTSIDE, STAYS, x -> x.day(v));
            refused("post what " + v, OUTSIDE, STAYS, x -> x.post(0, v));
            refused("back " + v, OUTSIDE, STAYS, x -> x.back(v));
            refused("odds which " + v, LOST, STAYS, x -> x.odds(0, v));
            refused("as kind " + v, OUTSIDE, 0, x -> x.as(0, v));
            refused("many " + v, OUTSIDE, STAYS, x -> x.many(v));
        }
        refused("ofGun what 5", OUTSIDE, STAYS, x -> x.ofGun(0, 5));
        refused("soak 10", OUTSIDE, STAYS, x -> x.soak(0, 10));
        refused("charge 10", OUTSIDE, STAYS, x -> x.charge(0, 10));
        refused("is what 2", OUTSIDE, STAYS, x -> x.is(0, 2));
        refused("day what 2", OUTSIDE, STAYS, x -> x.day(2));
        refused("post what 2", OUTSIDE, STAYS, x -> x.post(0, 2));
        refused("back 9 of 8", OUTSIDE, STAYS, x -> x.back(9));
        refused("odds which 2", LOST, STAYS, x -> x.odds(0, 2));
        refused("as kind 3", OUTSIDE, 0, x -> x.as(0, 3));
        refused("many 5", OUTSIDE, STAYS, x -> x.many(5));
        for (int k : new int[] {-4, 36, LOW, TOP}) {
            refused("sap k " + k, OUTSIDE, STAYS, x -> x.sap(6, k));
            refused("rush k " + k, OUTSIDE, STAYS, x -> x.rush(6, k));
        }
        refused("sap k -3", OUTSIDE, STAYS, x -> x.sap(6, -3));
    }

    private static void outsideOfSheets() {
        Edges.says("Terms", "OUTSIDE (another number is not as told), of SHEETS");
        for (int v : new int[] {-1, 3, LOW, TOP}) {
            refused("ground lane " + v, OUTSIDE, 0, x -> x.ground(3, v, 0, 22));
            refused("trench lane " + v, OUTSIDE, 0, x -> x.trench(0, v, 0, 1, 0));
            refused("sheet lane " + v, OUTSIDE, 0, x -> x.sheet(0, v, 1));
            refused("cell lane " + v, LOST, 0, x -> x.cell(0, 0, v));
        }
        for (int v : new int[] {-1, 41, LOW, TOP}) {
            refused("trench n " + v, OUTSIDE, 0, x -> x.trench(0, 0, 0, v, 0));
        }
        for (int v : new int[] {-1, 5, LOW, TOP}) {
            refused("trench what " + v, OUTSIDE, 0, x -> x.trench(0, 0, 0, 1, v));
        }
        for (int v : new int[] {61, TOP}) {
            refused("sheet n " + v, OUTSIDE, 0, x -> x.sheet(0, 0, v));
        }
    }

    private static void state() {
        Edges.says("promise 14", "STATE: it is no SOIL, is SHOT, is neither in column 0 nor next to one that is DUG");
        refused("dig a gun's cell", STATE, STAYS, x -> x.dig(8));
        refused("dig a silent gun's cell", STATE, STAYS, x -> x.dig(0));
        refused("dig water", STATE, STAYS, x -> x.dig(3));
        refused("dig a shot cell", STATE, STAYS, x -> x.dig(7));
        refused("dig off column 0", STATE, STAYS, x -> x.dig(1));
        refusedOfNew("bare", STATE, STAYS, x -> x.bare());
        refusedOfNew("fill", STATE, STAYS, x -> x.fill());
        refusedOfNew("day", STATE, STAYS, x -> x.day(0));
        refusedOfNew("trench", STATE, 0, x -> x.trench(0, 0, 0, 0, 0));
    }

    private static void full() {
        Edges.says("promise 23", "FULL");
        refused("the ninth", FULL, STAYS, x -> x.reading(8, true));
    }

    // ---- faults

    private static void faults() {
        Edges.says("Terms", "FAULTS: 1 NULL, 2 CAST, 3 INDEX, 4 SIZE: -10 less it (LOST, where a long is answered)");
        refused("ground of nothing", NULL, 1, x -> x.ground(2, 0, 0, 1));
        refused("ground of another lane", CAST, 2, x -> x.ground(3, 1, 0, 22));
        refused("ground of one too many", INDEX, 3, x -> x.ground(3, 2, 0, 23));
        refused("ground from -1 on", INDEX, 3, x -> x.ground(3, 2, -1, 22));
        refused("ground of -1 cells", SIZE, 4, x -> x.ground(3, 2, 0, -1));
        refused("ground of the fewest", SIZE, 4, x -> x.ground(3, 2, 0, LOW));
        refused("ground of the most", INDEX, 3, x -> x.ground(3, 2, 1, TOP));
        refused("trench of nothing", NULL, 1, x -> x.trench(2, 0, 0, 1, 0));
        refused("trench of another lane", CAST, 2, x -> x.trench(0, 1, 0, 1, 0));
        refused("trench of one too many", INDEX, 3, x -> x.trench(0, 0, 0, 6, 0));
        refused("trench from -1 on", INDEX, 3, x -> x.trench(0, 0, -1, 1, 0));
        refused("trench from the last on", INDEX, 3, x -> x.trench(0, 0, TOP, 40, 0));
        refused("sheet of -1", SIZE, 4, x -> x.sheet(0, 0, -1));
        refused("sheet of the fewest", SIZE, 4, x -> x.sheet(0, 0, LOW));
        refused("put into nothing", NULL, 1, x -> x.put(2, 0, 9));
        refused("put behind the end", INDEX, 3, x -> x.put(0, 5, 9));
        refused("put ahead of the begin", INDEX, 3, x -> x.put(0, -1, 9));
        refused("cell of nothing", LOST, 1, x -> x.cell(2, 0, 0));
        refused("cell of another lane", LOST, 2, x -> x.cell(0, 0, 1));
        refused("cell behind the end", LOST, 3, x -> x.cell(0, 5, 0));
        refused("cell ahead of the begin", LOST, 3, x -> x.cell(0, -1, 0));
        refused("copy of nothing", NULL, 1, x -> x.copy(2, 0, 0, 0, 1));
        refused("copy to nothing", NULL, 1, x -> x.copy(0, 0, 2, 0, 1));
        refused("copy to another lane", CAST, 2, x -> x.copy(0, 0, 1, 0, 1));
        refused("copy of one too many", INDEX, 3, x -> x.copy(0, 1, 0, 0, 5));
        refused("copy to one too many", INDEX, 3, x -> x.copy(0, 0, 0, 1, 5));
        refused("copy from -1 on", INDEX, 3, x -> x.copy(0, -1, 0, 0, 1));
        refused("copy to -1 on", INDEX, 3, x -> x.copy(0, 0, 0, -1, 1));
        refused("copy of -1 cells is no SIZE", INDEX, 3, x -> x.copy(0, 0, 0, 0, -1));
        refused("copy of the most", INDEX, 3, x -> x.copy(0, 1, 0, 1, TOP));
        refused("copy of the fewest", INDEX, 3, x -> x.copy(0, 1, 0, 1, LOW));
        refused("a gun as a howitzer", CAST, 2, x -> x.as(0, 1));
        refused("a gun as a mortar", CAST, 2, x -> x.as(0, 2));
        refused("a howitzer as a mortar", CAST, 2, x -> x.as(1, 2));
    }

    private static void faultsOfNoCellsTaken() {
        Edges.says("Terms", "INDEX (of cells from i on also where i is not 0 .. how many there are, if none is taken, too)");
        for (int i : new int[] {-1, 6, LOW, TOP}) {
            refused("ground of none from " + i, INDEX, 3, x -> x.ground(0, 0, i, 0));
            refused("trench of none from " + i, INDEX, 3, x -> x.trench(0, 0, i, 0, 0));
            refused("copy of none from " + i, INDEX, 3, x -> x.copy(0, i, 0, 0, 0));
            refused("copy of none to " + i, INDEX, 3, x -> x.copy(0, 0, 0, i, 0));
        }
        refused("ground of none from the end on", -100, 0, x -> x.ground(0, 0, 5, 0));
        refused("trench of none from the end on", 0, 0, x -> x.trench(0, 0, 5, 0, 0));
        refused("copy of none from end to end", 0, 0, x -> x.copy(0, 5, 0, 5, 0));
        refused("copy of none from 0 to 0", 0, 0, x -> x.copy(0, 0, 0, 0, 0));
    }

    // ---- of several the first

    private static void inOrder() {
        Edges.says("Terms", "of several the first in the order in which a call's line tells them");
        refused("ofGun: UNKNOWN, OUTSIDE", UNKNOWN, STAYS, x -> x.ofGun(2, 5));
        refused("soak: UNKNOWN, OUTSIDE", UNKNOWN, STAYS, x -> x.soak(9, 10));
        refused("charge: UNKNOWN, OUTSIDE", UNKNOWN, STAYS, x -> x.charge(2, 10));
        refused("haul: UNKNOWN: GUN, CELL", UNKNOWN, STAYS, x -> x.haul(2, 9));
        refused("is: UNKNOWN, OUTSIDE", UNKNOWN, STAYS, x -> x.is(9, 2));
        refused("sap: UNKNOWN, OUTSIDE", UNKNOWN, STAYS, x -> x.sap(9, 36));
        refused("rush: UNKNOWN, OUTSIDE", UNKNOWN, STAYS, x -> x.rush(9, 36));
        refused("post: UNKNOWN, OUTSIDE", UNKNOWN, STAYS, x -> x.post(9, 2));
        refused("reading: UNKNOWN, FULL", UNKNOWN, STAYS, x -> x.reading(9, false));
        refused("odds: UNKNOWN, OUTSIDE", LOST, STAYS, x -> x.odds(9, 2));
        refused("ground: UNKNOWN ahead of all", UNKNOWN, 0, x -> x.ground(4, 3, -1, -1));
        refused("trench: UNKNOWN ahead of all", UNKNOWN, 0, x -> x.trench(4, 3, -1, -1, -1));
        refused("sheet: UNKNOWN, OUTSIDE", UNKNOWN, 0, x -> x.sheet(4, 3, 61));
        refused("sheet: UNKNOWN, SIZE", UNKNOWN, 0, x -> x.sheet(4, 0, -1));
        refused("put: UNKNOWN, INDEX", UNKNOWN, 0, x -> x.put(4, -1, 9));
        refused("cell: UNKNOWN, OUTSIDE", LOST, 0, x -> x.cell(4, -1, 3));
        refused("copy: UNKNOWN, NULL", UNKNOWN, 0, x -> x.copy(2, 0, 4, 0, 1));
        refused("copy: UNKNOWN, INDEX", UNKNOWN, 0, x -> x.copy(4, -1, 0, -1, -1));
        refused("as: UNKNOWN, OUTSIDE", UNKNOWN, 0, x -> x.as(2, 3));
        refusedOfNew("day: OUTSIDE, STATE", OUTSIDE, STAYS, x -> x.day(2));
        refusedOfNew("trench: OUTSIDE: lane, STATE", OUTSIDE, 0, x -> x.trench(0, 3, 0, 0, 0));
        refusedOfNew("trench: OUTSIDE: n, STATE", OUTSIDE, 0, x -> x.trench(0, 0, 0, 41, 0));
        refusedOfNew("trench: OUTSIDE: what, STATE", OUTSIDE, 0, x -> x.trench(0, 0, 0, 0, 5));
        refusedOfNew("trench: UNKNOWN, STATE", UNKNOWN, 0, x -> x.trench(-1, 0, 0, 0, 0));
        refusedOfNew("trench: STATE, NULL", STATE, 0, x -> x.trench(1, 0, 0, 1, 0));
        refused("trench: INDEX, UNKNOWN: a cell", INDEX, 3, x -> x.trench(3, 2, 21, 2, 0));
        refused("trench: UNKNOWN: a cell, ahead of FIRST WRONG", UNKNOWN, 0, x -> x.trench(3, 2, 0, 1, 1));
    }

    private static void inOrderOfFaults() {
        Edges.says("Terms", "Of a call the first that is come to, in the order told");
        refused("ground: OUTSIDE, CAST", OUTSIDE, 0, x -> x.ground(0, 3, 0, 1));
        refused("ground: OUTSIDE, NULL", OUTSIDE, 0, x -> x.ground(2, 3, -1, -1));
        refused("ground: CAST, SIZE", CAST, 2, x -> x.ground(0, 1, 0, -1));
        refused("ground: CAST, INDEX", CAST, 2, x -> x.ground(0, 2, 9, 1));
        refused("ground: nothing is no CAST; NULL, SIZE", NULL, 1, x -> x.ground(2, 1, 0, -1));
        refused("ground: NULL, INDEX", NULL, 1, x -> x.ground(2, 2, 9, 1));
        refused("ground: SIZE, INDEX", SIZE, 4, x -> x.ground(0, 0, -1, -1));
        refused("ground: INDEX, FIRST FAULT", INDEX, 3, x -> x.ground(0, 0, 0, 6));
        refused("trench: CAST, INDEX", CAST, 2, x -> x.trench(0, 2, 9, 1, 0));
        refused("trench: nothing is no CAST; NULL, INDEX", NULL, 1, x -> x.trench(2, 1, 9, 1, 0));
        refused("sheet: OUTSIDE: lane, SIZE", OUTSIDE, 0, x -> x.sheet(0, 3, -1));
        refused("put: NULL, INDEX", NULL, 1, x -> x.put(2, -1, 9));
        refused("cell: OUTSIDE, NULL", LOST, 0, x -> x.cell(2, 0, 3));
        refused("cell: CAST, INDEX", LOST, 2, x -> x.cell(0, 9, 2));
        refused("cell: nothing is no CAST; NULL, INDEX", LOST, 1, x -> x.cell(2, -1, 2));
        refused("copy: NULL (the first), INDEX", NULL, 1, x -> x.copy(2, -1, 0, -1, -1));
        refused("copy: NULL (the other), INDEX", NULL, 1, x -> x.copy(0, -1, 2, -1, -1));
        refused("copy: NULL (both)", NULL, 1, x -> x.copy(2, 0, 2, 0, 0));
        refused("copy: CAST, INDEX", CAST, 2, x -> x.copy(0, -1, 1, -1, -1));
        refused("copy: CAST, though none is taken", CAST, 2, x -> x.copy(0, 0, 1, 0, 0));
        refused("as: OUTSIDE, CAST", OUTSIDE, 0, x -> x.as(0, 3));
    }

    private static void ofNewObject() {
        Edges.says("promise 1", "No GROUND (no CELLS, GUNS), SHEETS have nothing");
        refusedOfNew("ofGun", UNKNOWN, STAYS, x -> x.ofGun(0, 5));
        refusedOfNew("clay", UNKNOWN, STAYS, x -> x.clay(0));
        refusedOfNew("soak", UNKNOWN, STAYS, x -> x.soak(0, 1));
        refusedOfNew("charge", UNKNOWN, STAYS, x -> x.charge(0, 1));
        refusedOfNew("hush", UNKNOWN, STAYS, x -> x.hush(0, true));
        refusedOfNew("haul", UNKNOWN, STAYS, x -> x.haul(0, 0));
        refusedOfNew("sees", LOST, STAYS, x -> x.sees(0));
        refusedOfNew("shot", UNKNOWN, STAYS, x -> x.shot(0));
        refusedOfNew("is", UNKNOWN, STAYS, x -> x.is(0, 2));
        refusedOfNew("cover", UNKNOWN, STAYS, x -> x.cover(0));
        refusedOfNew("dig", UNKNOWN, STAYS, x -> x.dig(0));
        refusedOfNew("sap", UNKNOWN, STAYS, x -> x.sap(0, 36));
        refusedOfNew("rush", UNKNOWN, STAYS, x -> x.rush(0, 36));
        refusedOfNew("silence", UNKNOWN, STAYS, x -> x.silence(0));
        refusedOfNew("breach", UNKNOWN, STAYS, x -> x.breach(0));
        refusedOfNew("post", UNKNOWN, STAYS, x -> x.post(0, 2));
        refusedOfNew("reading", UNKNOWN, STAYS, x -> x.reading(0, true));
        refusedOfNew("back 1", OUTSIDE, STAYS, x -> x.back(1));
        refusedOfNew("back 0", 0, STAYS, x -> x.back(0));
        refusedOfNew("reaches", UNKNOWN, STAYS, x -> x.reaches(0));
        refusedOfNew("kinds", UNKNOWN, STAYS, x -> x.kinds(0));
        refusedOfNew("haunts", LOST, STAYS, x -> x.haunts(0));
        refusedOfNew("odds", LOST, STAYS, x -> x.odds(0, 0));
        refusedOfNew("tell", UNKNOWN, STAYS, x -> x.tell(0));
        refusedOfNew("fire", UNKNOWN, STAYS, x -> x.fire(0));
        refusedOfNew("as", UNKNOWN, 0, x -> x.as(0, 0));
        for (int k = 0; k < 4; k++) {
            int sheet = k;
            refusedOfNew("ground " + k, NULL, 1, x -> x.ground(sheet, 0, 0, 0));
            refusedOfNew("lose " + k, 0, STAYS, x -> x.lose(sheet));
            refusedOfNew("put " + k, NULL, 1, x -> x.put(sheet, 0, 1));
            refusedOfNew("cell " + k, LOST, 1, x -> x.cell(sheet, 0, 0));
            refusedOfNew("copy " + k, NULL, 1, x -> x.copy(sheet, 0, sheet, 0, 0));
        }
    }

    private static void firstFaultIsNoFault() {
        Edges.says("promise 2", "-100 less the FIRST FAULT");
        refused("a text that ends too soon", -121, 0, x -> x.ground(3, 2, 0, 21));
        refused("a text that is none", -100, 0, x -> x.ground(3, 2, 1, 21));
        refused("no code at all", -100, 0, x -> x.ground(3, 2, 0, 0));
    }
}
