import java.util.ArrayList;
import java.util.HashSet;
import java.util.List;
import java.util.Set;

/**
 * The document once more, as literally as it goes and with other means than the program's:
 * a regular expression for texts, all ways by trying, guns of classes, rows of their own types.
 * Only for grounds with few cells of soil: see waysTo.
 */
final class Model {
    static final int UNKNOWN = -1, OUTSIDE = -2, STATE = -3, FULL = -4, NONE = -9;
    static final long LOST = Long.MIN_VALUE;

    interface Fired {
        int number();
        void leave(int body);
        default int fired() { leave(4); return number(); }
    }

    class Gun implements Fired {
        int cell, reach, number;
        boolean silent;
        int kind() { return 0; }
        int range() { return reach; }
        int telling() { leave(1); return reach; }
        public int number() { return number; }
        public void leave(int body) { trace = 31 * trace + body; }
    }

    class Howitzer extends Gun {
        @Override int kind() { return 1; }
        @Override int range() { return reach + 1; }
        @Override int telling() { leave(2); return super.telling() + 100; }
        int gunTelling() { return super.telling(); }
    }

    class Mortar extends Howitzer {
        @Override int kind() { return 2; }
        @Override int range() { return super.range() / 2; }
        @Override int telling() { leave(3); int first = super.telling(); return first + gunTelling(); }
        @Override public int fired() { leave(5); return 90; }
    }

    record Reading(int cell, boolean was) { }

    record Way(List<Integer> row, int shot, int nights) {
        boolean isAheadOf(Way other, boolean rush) {
            if (other == null) return true;
            if (rush && shot != other.shot) return shot < other.shot;
            if (nights != other.nights) return nights < other.nights;
            if (row.size() != other.row.size()) return row.size() < other.row.size();
            for (int k = 0; k < row.size(); k++) {
                if (!row.get(k).equals(other.row.get(k))) return row.get(k) < other.row.get(k);
            }
            return false;
        }
    }

    int wide, high, trace, fault;
    int[] clay = new int[0];
    List<Gun> guns = new ArrayList<>();
    Set<Integer> dug = new HashSet<>();
    List<Reading> readings = new ArrayList<>();
    Object[] sheets = new Object[4];

    boolean noCell(int c) { return c < 0 || c >= clay.length; }
    boolean noGun(int g) { return g < 0 || g >= guns.size(); }
    boolean noSheet(int k) { return k < 0 || k > 3; }
    boolean noGround() { return clay.length == 0; }
    int column(int c) { return c % wide; }
    int row(int c) { return c / wide; }

    static int length(Object row) {
        if (row instanceof byte[] b) return b.length;
        if (row instanceof short[] s) return s.length;
        return ((int[]) row).length;
    }
    static int at(Object row, int i) {
        if (row instanceof byte[] b) return b[i];
        if (row instanceof short[] s) return s[i];
        return ((int[]) row)[i];
    }
    static int lane(Object row) {
        return row instanceof byte[] ? 0 : row instanceof short[] ? 1 : 2;
    }
    int faulty(int f) { fault = f; return -10 - f; }
    int faultOf(Object row, int lane, int i, int n) {
        if (row != null && lane(row) != lane) return 2;
        if (row == null) return 1;
        return (long) i < 0 || n < 0 || (long) i + n > length(row) ? 3 : 0;
    }

    // ---- texts

    static boolean isText(String s) {
        if (!s.matches("p[2-6][2-6][0-9]*(;[ghm][0-5][0-5][0-9]){1,4}")) return false;
        int wide = s.charAt(1) - '0', high = s.charAt(2) - '0';
        String[] parts = s.split(";");
        if (parts[0].length() != 3 + wide * high) return false;
        for (int k = 1; k < parts.length; k++) {
            if (parts[k].charAt(1) - '0' >= wide || parts[k].charAt(2) - '0' >= high) return false;
        }
        return true;
    }

    /** Whether some text begins so: tried by setting a whole text's end behind it. */
    static boolean begins(String s) {
        if (s.length() < 3) s = s + "p22".substring(s.length());
        int cells = s.charAt(1) >= '2' && s.charAt(1) <= '6' && s.charAt(2) >= '2' && s.charAt(2) <= '6'
            ? (s.charAt(1) - '0') * (s.charAt(2) - '0') : 0;
        if (s.length() < 3 + cells) s = s + "1".repeat(3 + cells - s.length());
        if (isText(s)) return true;
        for (String end : new String[] {";g000", "g000", "000", "00", "0"}) {
            if (isText(s + end)) return true;
        }
        return false;
    }

    int ground(int sheet, int lane, int i, int n) {
        fault = 0;
        if (noSheet(sheet)) return UNKNOWN;
        if (lane < 0 || lane > 2) return OUTSIDE;
        Object row = sheets[sheet];
        if (row != null && lane(row) != lane) return faulty(2);
        if (row == null) return faulty(1);
        if (n < 0) return faulty(4);
        int f = faultOf(row, lane, i, n);
        if (f != 0) return faulty(f);
        StringBuilder b = new StringBuilder();
        for (int k = 0; k < n; k++) {
            int code = at(row, i + k);
            b.append(code >= 0 && code < 128 ? (char) code : '?');
            if (!begins(b.toString())) return -100 - k;
        }
        if (!isText(b.toString())) return -100 - n;
        take(b.toString());
        return guns.size();
    }

    void take(String text) {
        wide = text.charAt(1) - '0';
        high = text.charAt(2) - '0';
        clay = text.substring(3, 3 + wide * high).chars().map(c -> c - '0').toArray();
        guns.clear();
        dug.clear();
        readings.clear();
        String[] parts = text.split(";");
        for (int k = 1; k < parts.length; k++) {
            Gun g = of("ghm".indexOf(parts[k].charAt(0)), null);
            g.number = k - 1;
            g.cell = parts[k].charAt(1) - '0' + wide * (parts[k].charAt(2) - '0');
            g.reach = parts[k].charAt(3) - '0';
            guns.add(g);
        }
    }

    Gun of(int kind, Gun like) {
        Gun g = kind == 0 ? new Gun() : kind == 1 ? new Howitzer() : new Mortar();
        if (like != null) {
            g.cell = like.cell;
            g.reach = like.reach;
            g.number = like.number;
            g.silent = like.silent;
        }
        return g;
    }

    int ofGun(int g, int what) {
        if (noGun(g)) return UNKNOWN;
        if (what < 0 || what > 4) return OUTSIDE;
        Gun x = guns.get(g);
        return new int[] {x.kind(), x.cell, x.reach, x.range(), x.silent ? 1 : 0}[what];
    }
    int clay(int c) { return noCell(c) ? UNKNOWN : clay[c]; }
    int soak(int c, int v) {
        if (noCell(c)) return UNKNOWN;
        if (v < 0 || v > 9) return OUTSIDE;
        int was = clay[c];
        clay[c] = v;
        return was;
    }
    int charge(int g, int v) {
        if (noGun(g)) return UNKNOWN;
        if (v < 0 || v > 9) return OUTSIDE;
        int was = guns.get(g).reach;
        guns.get(g).reach = v;
        return was;
    }
    int hush(int g, boolean silent) {
        if (noGun(g)) return UNKNOWN;
        boolean was = guns.get(g).silent;
        guns.get(g).silent = silent;
        return was ? 1 : 0;
    }
    int haul(int g, int c) {
        if (noGun(g) || noCell(c)) return UNKNOWN;
        int was = guns.get(g).cell;
        guns.get(g).cell = c;
        return was;
    }

    // ---- what is seen, dug

    boolean hasGun(int c) { return guns.stream().anyMatch(g -> g.cell == c); }
    boolean isSoil(int c) { return clay[c] > 0 && !hasGun(c); }

    boolean doesSee(Gun g, int c) {
        int x = column(c) - column(g.cell), y = row(c) - row(g.cell);
        if (x == 0 && y == 0) return false;
        if (x != 0 && y != 0 && Math.abs(x) != Math.abs(y)) return false;
        int off = Math.max(Math.abs(x), Math.abs(y));
        if (off > g.range()) return false;
        for (int k = 1; k < off; k++) {
            if (hasGun(column(g.cell) + x / off * k + wide * (row(g.cell) + y / off * k))) return false;
        }
        return true;
    }
    boolean isShot(int c) { return guns.stream().anyMatch(g -> !g.silent && doesSee(g, c)); }
    boolean isNext(int a, int b) {
        return Math.abs(column(a) - column(b)) + Math.abs(row(a) - row(b)) == 1;
    }

    long sees(int g) {
        if (noGun(g)) return LOST;
        long set = 0;
        for (int c = 0; c < clay.length; c++) if (doesSee(guns.get(g), c)) set += 1L << c;
        return set;
    }
    int shot(int c) {
        if (noCell(c)) return UNKNOWN;
        int set = 0;
        for (Gun g : guns) if (!g.silent && doesSee(g, c)) set += 1 << g.number;
        return set;
    }
    int is(int c, int what) {
        if (noCell(c)) return UNKNOWN;
        if (what < 0 || what > 1) return OUTSIDE;
        return (what == 0 ? isSoil(c) : dug.contains(c)) ? 1 : 0;
    }
    int cover(int g) {
        if (noGun(g)) return UNKNOWN;
        int set = 0;
        for (Gun x : guns) if (doesSee(x, guns.get(g).cell)) set += 1 << x.number;
        return set;
    }
    int bare() {
        if (noGround()) return STATE;
        int set = 0;
        for (Gun x : guns) if (cover(x.number) == 0) set += 1 << x.number;
        return set;
    }
    int dig(int c) {
        if (noCell(c)) return UNKNOWN;
        boolean near = column(c) == 0 || dug.stream().anyMatch(d -> isNext(c, d));
        if (!isSoil(c) || isShot(c) || !near) return STATE;
        return dug.add(c) ? clay[c] : 0;
    }
    int fill() {
        if (noGround()) return STATE;
        int were = dug.size();
        dug.clear();
        return were;
    }
    int trench(int sheet, int lane, int i, int n, int what) {
        fault = 0;
        if (noSheet(sheet)) return UNKNOWN;
        if (lane < 0 || lane > 2 || n < 0 || n > 40 || what < 0 || what > 4) return OUTSIDE;
        if (noGround()) return STATE;
        int f = faultOf(sheets[sheet], lane, i, n);
        if (f != 0) return faulty(f);
        List<Integer> row = new ArrayList<>();
        for (int k = 0; k < n; k++) row.add(at(sheets[sheet], i + k));
        for (int c : row) if (noCell(c)) return UNKNOWN;
        for (int k = 0; k < n; k++) {
            int c = row.get(k);
            if (!isSoil(c) || (k == 0 ? column(c) != 0 : !isNext(c, row.get(k - 1)))) {
                return what == 1 ? k : -100 - k;
            }
        }
        int shooters = 0;
        for (int c : row) shooters |= shot(c);
        return switch (what) {
            case 0 -> nights(row);
            case 1 -> NONE;
            case 2 -> (int) row.stream().filter(this::isShot).count();
            case 3 -> shooters;
            default -> (int) row.stream().distinct().count();
        };
    }
    int nights(List<Integer> row) {
        return row.stream().distinct().filter(c -> !dug.contains(c)).mapToInt(c -> clay[c]).sum();
    }

    // ---- ways: all of them are tried, so grounds must have few cells of soil

    Way bestWay(int c, boolean rush) {
        Way[] best = new Way[1];
        boolean[] shot = new boolean[clay.length], open = new boolean[clay.length];
        for (int k = 0; k < clay.length; k++) {
            shot[k] = isShot(k);
            open[k] = isSoil(k) && (rush || !shot[k]);
        }
        if (open[c]) {
            for (int first = 0; first < clay.length; first += wide) {
                if (open[first]) tryOn(new ArrayList<>(List.of(first)), c, open, shot, rush, best);
            }
        }
        return best[0];
    }
    void tryOn(List<Integer> row, int aim, boolean[] open, boolean[] shot, boolean rush, Way[] best) {
        int last = row.get(row.size() - 1);
        if (last == aim) {
            Way way = new Way(List.copyOf(row), (int) row.stream().filter(c -> shot[c]).count(), nights(row));
            if (way.isAheadOf(best[0], rush)) best[0] = way;
            return;
        }
        for (int next = 0; next < clay.length; next++) {
            if (open[next] && isNext(next, last) && !row.contains(next)) {
                row.add(next);
                tryOn(row, aim, open, shot, rush, best);
                row.remove(row.size() - 1);
            }
        }
    }
    int told(Way way, int k) {
        if (way == null) return NONE;
        if (k == -3) return way.shot;
        if (k == -2) return way.nights;
        if (k == -1) return way.row.size();
        return k < way.row.size() ? way.row.get(k) : NONE;
    }
    int sap(int c, int k) {
        if (noCell(c)) return UNKNOWN;
        return k < -2 || k > 35 ? OUTSIDE : told(bestWay(c, false), k);
    }
    int rush(int c, int k) {
        if (noCell(c)) return UNKNOWN;
        return k < -3 || k > 35 ? OUTSIDE : told(bestWay(c, true), k);
    }
    /** Whether there is a sap for each set of guns that are silent besides those that are. */
    List<Integer> setsWithSap(int c, List<Integer> sets) {
        List<Integer> with = new ArrayList<>();
        int were = 0;
        for (Gun g : guns) were += g.silent ? 1 << g.number : 0;
        for (int set = 0; set < 1 << guns.size(); set++) {
            if ((set & were) != 0) continue;
            sets.add(set);
            for (Gun g : guns) g.silent = ((set | were) >> g.number & 1) == 1;
            if (bestWay(c, false) != null) with.add(set);
        }
        for (Gun g : guns) g.silent = (were >> g.number & 1) == 1;
        return with;
    }
    int silence(int c) {
        if (noCell(c)) return UNKNOWN;
        return setsWithSap(c, new ArrayList<>()).stream()
            .min((a, b) -> Integer.bitCount(a) != Integer.bitCount(b)
                ? Integer.compare(Integer.bitCount(a), Integer.bitCount(b)) : Integer.compare(a, b))
            .orElse(NONE);
    }
    int breach(int g) {
        if (noGun(g)) return UNKNOWN;
        int best = NONE;
        for (int c = 0; c < clay.length; c++) {
            if (!isNext(c, guns.get(g).cell)) continue;
            Way way = bestWay(c, false);
            if (way != null && (best == NONE || way.nights < best)) best = way.nights;
        }
        return best;
    }
    int day(int what) {
        if (what < 0 || what > 1) return OUTSIDE;
        if (noGround()) return STATE;
        int gun = NONE, best = NONE;
        for (Gun g : guns) {
            int nights = breach(g.number);
            if (nights != NONE && (best == NONE || nights < best)) {
                best = nights;
                gun = g.number;
            }
        }
        return what == 0 ? gun : best;
    }
    int post(int c, int what) {
        if (noCell(c)) return UNKNOWN;
        if (what < 0 || what > 1) return OUTSIDE;
        int best = NONE;
        double most = -1;
        for (int p = 0; p < clay.length; p++) {
            if (p == c || hasGun(p)) continue;
            Gun more = new Gun();
            more.cell = p;
            more.reach = 2;
            more.number = guns.size();
            if (doesSee(more, c)) continue;
            guns.add(more);
            Way way = bestWay(c, false);
            guns.remove(more);
            double nights = way == null ? Double.POSITIVE_INFINITY : way.nights;
            if (nights > most) {
                most = nights;
                best = p;
            }
        }
        if (what == 0) return best;
        return best == NONE || Double.isInfinite(most) ? NONE : (int) most;
    }

    // ---- what was shot at

    int reading(int c, boolean was) {
        if (noCell(c)) return UNKNOWN;
        if (readings.size() == 8) return FULL;
        readings.add(new Reading(c, was));
        return readings.size() - 1;
    }
    int back(int k) {
        if (k < 0 || k > readings.size()) return OUTSIDE;
        for (int n = 0; n < k; n++) readings.remove(readings.size() - 1);
        return readings.size();
    }
    boolean allSo() { return readings.stream().allMatch(r -> isShot(r.cell) == r.was); }
    int reaches(int g) {
        if (noGun(g)) return UNKNOWN;
        Gun was = guns.get(g);
        int set = 0;
        for (int v = 0; v < 10; v++) {
            Gun other = of(was.kind(), was);
            other.reach = v;
            guns.set(g, other);
            if (allSo()) set += 1 << v;
        }
        guns.set(g, was);
        return set;
    }
    int kinds(int g) {
        if (noGun(g)) return UNKNOWN;
        Gun was = guns.get(g);
        int set = 0;
        for (int v = 0; v < 3; v++) {
            guns.set(g, of(v, was));
            if (allSo()) set += 1 << v;
        }
        guns.set(g, was);
        return set;
    }
    long haunts(int g) {
        if (noGun(g)) return LOST;
        Gun was = guns.get(g);
        long set = 0;
        for (int v = 0; v < clay.length; v++) {
            Gun other = of(was.kind(), was);
            other.cell = v;
            guns.set(g, other);
            if (allSo()) set += 1L << v;
        }
        guns.set(g, was);
        return set;
    }
    long odds(int c, int which) {
        if (noCell(c)) return LOST;
        if (which < 0 || which > 1) return LOST;
        List<Integer> all = new ArrayList<>();
        int upper = setsWithSap(c, all).size(), lower = all.size();
        int divisor = java.math.BigInteger.valueOf(upper).gcd(java.math.BigInteger.valueOf(lower)).intValue();
        return (which == 0 ? upper : lower) / divisor;
    }

    // ---- sheets, parts

    int sheet(int k, int lane, int n) {
        fault = 0;
        if (noSheet(k)) return UNKNOWN;
        if (lane < 0 || lane > 2 || n > 60) return OUTSIDE;
        if (n < 0) return faulty(4);
        sheets[k] = lane == 0 ? new byte[n] : lane == 1 ? new short[n] : new int[n];
        return 1;
    }
    int lose(int k) {
        if (noSheet(k)) return UNKNOWN;
        int had = sheets[k] == null ? 0 : 1;
        sheets[k] = null;
        return had;
    }
    int put(int k, int i, int v) {
        fault = 0;
        if (noSheet(k)) return UNKNOWN;
        if (sheets[k] == null) return faulty(1);
        if (i < 0 || i >= length(sheets[k])) return faulty(3);
        if (sheets[k] instanceof byte[] b) b[i] = (byte) v;
        if (sheets[k] instanceof short[] s) s[i] = (short) v;
        if (sheets[k] instanceof int[] n) n[i] = v;
        return 1;
    }
    long cell(int k, int i, int lane) {
        fault = 0;
        if (noSheet(k) || lane < 0 || lane > 2) return LOST;
        fault = faultOf(sheets[k], lane, i, 1);
        return fault != 0 ? LOST : at(sheets[k], i);
    }
    int copy(int k, int i, int other, int j, int n) {
        fault = 0;
        if (noSheet(k) || noSheet(other)) return UNKNOWN;
        if (sheets[k] == null || sheets[other] == null) return faulty(1);
        try {
            System.arraycopy(sheets[k], i, sheets[other], j, n);
        } catch (ArrayStoreException e) {
            return faulty(2);
        } catch (IndexOutOfBoundsException e) {
            return faulty(3);
        }
        return n;
    }
    int tell(int g) { return noGun(g) ? UNKNOWN : guns.get(g).telling(); }
    int fire(int g) { return noGun(g) ? UNKNOWN : guns.get(g).fired(); }
    int as(int g, int kind) {
        fault = 0;
        if (noGun(g)) return UNKNOWN;
        if (kind < 0 || kind > 2) return OUTSIDE;
        Gun x = guns.get(g);
        boolean is = kind == 0 || kind == 1 && x instanceof Howitzer || x instanceof Mortar;
        return is ? 1 : faulty(2);
    }
    int trace() { return trace; }
    int fault() { return fault; }
    int many(int what) {
        if (what < 0 || what > 4) return OUTSIDE;
        return new int[] {guns.size(), wide, high, dug.size(), readings.size()}[what];
    }
}
