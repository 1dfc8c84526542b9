import java.util.Random;

/** Long runs of calls, right and wrong ones mixed: the program's answers against the model's. */
public final class AgainstModel {
    private static final int RUNS = 2000, KINDS_OF_CALLS = 38;
    /** An object is used for 512 calls at most, and a new ground takes 62. */
    private static final int CALLS = 450;

    private final Random random;
    private final ClayFort fort = new ClayFort();
    private final Model model = new Model();
    private int cells = 0;
    private int calls = 0;

    private AgainstModel(long seed) {
        random = new Random(seed);
    }

    public static void main(String[] args) {
        int passed = 0;
        int failed = 0;
        for (int run = 0; run < RUNS; run++) {
            if (new AgainstModel(run).isAlike(run)) {
                passed++;
            } else {
                failed++;
            }
        }
        System.out.println("AgainstModel: " + passed + " passed, " + failed + " failed");
        System.exit(failed == 0 ? 0 : 1);
    }

    private boolean isAlike(int run) {
        String wrong = newGround();
        while (calls < CALLS && wrong == null) {
            wrong = random.nextInt(40) == 0 ? newGround() : oneCall(random.nextInt(KINDS_OF_CALLS));
        }
        if (wrong != null) {
            System.out.println("run " + run + ", call " + calls + ": " + wrong);
        }
        return wrong == null;
    }

    // ---- what the calls are given

    private int below(int n) {
        return random.nextInt(n);
    }

    private int oddNumber() {
        int[] odd = {-1, -2, 4, 10, 36, 60, 61, 100, Integer.MAX_VALUE, Integer.MIN_VALUE, Integer.MAX_VALUE - 1};
        return odd[below(odd.length)];
    }

    private int mostly(int n) {
        return below(25) == 0 ? oddNumber() : below(Math.max(1, n));
    }

    private int someCell() { return mostly(cells); }

    private int someGun() { return mostly(below(6) == 0 ? 5 : Math.max(1, model.guns.size())); }

    private String text() {
        int wide = 2 + below(5);
        int high = 2 + below(5);
        // The model tries all ways: of a large ground most is water.
        int water = wide * high <= 12 ? below(4) : wide * high <= 16 ? 2 + below(3) : 4 + below(3);
        StringBuilder b = new StringBuilder("p").append(wide).append(high);
        for (int c = 0; c < wide * high; c++) {
            b.append(below(10) < water ? 0 : 1 + below(below(2) == 0 ? 3 : 9));
        }
        int guns = 1 + below(4);
        for (int g = 0; g < guns; g++) {
            int reach = below(3) == 0 ? below(10) : below(3);
            b.append(';').append("ghm".charAt(below(3))).append(below(wide)).append(below(high)).append(reach);
        }
        return b.toString();
    }

    private String spoiled(String text) {
        int at = below(text.length());
        switch (below(4)) {
            case 0: return text.substring(0, at);
            case 1: return text.substring(0, at) + "pghm;0123456789x".charAt(below(16)) + text.substring(at + 1);
            case 2: return text.substring(0, at) + "pghm;0123456789x".charAt(below(16)) + text.substring(at);
            default: return text + (below(2) == 0 ? ";g000" : "0");
        }
    }

    private String newGround() {
        String text = text();
        if (below(3) == 0) {
            text = spoiled(text);
        }
        int lane = below(3);
        int from = below(3);
        if (from + text.length() > 60) {
            from = 0;
        }
        if (text.length() > 60) {
            text = text.substring(0, 60);
        }
        String wrong = same("sheet", fort.sheet(1, lane, from + text.length()), model.sheet(1, lane, from + text.length()));
        for (int k = 0; k < text.length() && wrong == null; k++) {
            wrong = same("put", fort.put(1, from + k, text.charAt(k)), model.put(1, from + k, text.charAt(k)));
        }
        if (wrong == null) {
            wrong = same("ground of " + text, fort.ground(1, lane, from, text.length()),
                model.ground(1, lane, from, text.length()));
        }
        cells = model.clay.length;
        return wrong;
    }

    /** A row of cells each next to the one ahead, now and then not so, is put and asked for. */
    private String someTrench() {
        int n = below(9);
        String wrong = same("sheet", fort.sheet(2, 2, 40), model.sheet(2, 2, 40));
        int c = cells == 0 ? 0 : below(cells);
        if (cells != 0 && below(6) != 0) {
            c = c / model.wide * model.wide;
        }
        for (int k = 0; k < n && wrong == null && cells != 0; k++) {
            wrong = same("put", fort.put(2, k, c), model.put(2, k, c));
            int[] next = {c - 1, c + 1, c - model.wide, c + model.wide};
            int tried = below(30) == 0 ? someCell() : next[below(4)];
            c = tried >= 0 && tried < cells || below(30) == 0 ? tried : c;
        }
        for (int what = 0; what < 5 && wrong == null; what++) {
            wrong = same("trench " + what, fort.trench(2, 2, 0, n, what), model.trench(2, 2, 0, n, what));
        }
        return wrong;
    }

    private String same(String call, long got, long want) {
        calls++;
        return got == want ? null : call + " answered " + got + ", the model " + want;
    }

    private String oneCall(int which) {
        return which < 14 ? groundCall(which) : which < 26 ? wayCall(which) : sheetCall(which);
    }

    private String groundCall(int which) {
        int c = someCell(), g = someGun(), what = mostly(5), v = mostly(10);
        boolean yes = random.nextBoolean();
        switch (which) {
            case 0: return same("ofGun " + g + " " + what, fort.ofGun(g, what), model.ofGun(g, what));
            case 1: return same("clay " + c, fort.clay(c), model.clay(c));
            case 2: return same("soak " + c + " " + v, fort.soak(c, v), model.soak(c, v));
            case 3: return same("charge " + g + " " + v, fort.charge(g, v), model.charge(g, v));
            case 4: return same("hush " + g + " " + yes, fort.hush(g, yes), model.hush(g, yes));
            case 5: return same("haul " + g + " " + c, fort.haul(g, c), model.haul(g, c));
            case 6: return same("sees " + g, fort.sees(g), model.sees(g));
            case 7: return same("shot " + c, fort.shot(c), model.shot(c));
            case 8: return same("is " + c + " " + what, fort.is(c, what), model.is(c, what));
            case 9: return same("cover " + g, fort.cover(g), model.cover(g));
            case 10: return same("bare", fort.bare(), model.bare());
            case 11:
            case 12: return same("dig " + c, fort.dig(c), model.dig(c));
            default: return below(5) == 0 ? same("fill", fort.fill(), model.fill()) : someTrench();
        }
    }

    private String wayCall(int which) {
        int c = someCell(), g = someGun(), what = mostly(2);
        boolean yes = random.nextBoolean();
        switch (which) {
            case 14: return wholeWay(c, true);
            case 15: return wholeWay(c, false);
            case 16: return same("silence " + c, fort.silence(c), model.silence(c));
            case 17: return same("breach " + g, fort.breach(g), model.breach(g));
            case 18: return same("day " + what, fort.day(what), model.day(what));
            case 19: return same("post " + c + " " + what, fort.post(c, what), model.post(c, what));
            case 20:
                yes = below(8) == 0 ? yes : !model.noCell(c) && model.isShot(c);
                return same("reading " + c + " " + yes, fort.reading(c, yes), model.reading(c, yes));
            case 21: return same("back " + what, fort.back(what), model.back(what));
            case 22: return same("reaches " + g, fort.reaches(g), model.reaches(g));
            case 23: return same("kinds " + g, fort.kinds(g), model.kinds(g));
            case 24: return same("haunts " + g, fort.haunts(g), model.haunts(g));
            default: return same("odds " + c + " " + what, fort.odds(c, what), model.odds(c, what));
        }
    }

    private String wholeWay(int c, boolean rush) {
        if (model.noCell(c)) {
            return same("way", rush ? fort.rush(c, 0) : fort.sap(c, 0), Model.UNKNOWN);
        }
        Model.Way way = model.bestWay(c, rush);
        for (int k = -4; k <= 36; k++) {
            long want = k < (rush ? -3 : -2) || k > 35 ? Model.OUTSIDE : model.told(way, k);
            String wrong = same((rush ? "rush " : "sap ") + c + " " + k, rush ? fort.rush(c, k) : fort.sap(c, k), want);
            if (wrong != null) {
                return wrong;
            }
        }
        return null;
    }

    private String sheetCall(int which) {
        int k = mostly(4), o = mostly(4), i = mostly(8), j = mostly(8), n = mostly(5), lane = mostly(3), g = someGun();
        switch (which) {
            case 26: return same("sheet", fort.sheet(k, lane, n), model.sheet(k, lane, n));
            case 27: return same("lose", fort.lose(k), model.lose(k));
            case 28:
                int v = below(2) == 0 ? random.nextInt() : below(300);
                return same("put", fort.put(k, i, v), model.put(k, i, v));
            case 29: return same("cell", fort.cell(k, i, lane), model.cell(k, i, lane));
            case 30: return same("copy", fort.copy(k, i, o, j, n), model.copy(k, i, o, j, n));
            case 31: return same("tell", fort.tell(g), model.tell(g));
            case 32: return same("fire", fort.fire(g), model.fire(g));
            case 33: return same("as", fort.as(g, n), model.as(g, n));
            case 34: return same("trace", fort.trace(), model.trace());
            case 35: return same("fault", fort.fault(), model.fault());
            case 36: return same("many", fort.many(n), model.many(n));
            default: return below(2) == 0
                ? same("trench", fort.trench(k, lane, i, j, n), model.trench(k, lane, i, j, n))
                : same("ground", fort.ground(k, lane, i, j), model.ground(k, lane, i, j));
        }
    }
}
