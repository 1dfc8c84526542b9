/** What the tests of the document's edges share: each check stands under the words of the document that it holds to. */
final class Edges {
    static final int UNKNOWN = -1, OUTSIDE = -2, STATE = -3, FULL = -4, NONE = -9;
    static final int NULL = -11, CAST = -12, INDEX = -13, SIZE = -14;
    static final long LOST = Long.MIN_VALUE;
    static final int LOW = Integer.MIN_VALUE, TOP = Integer.MAX_VALUE;

    private static String heading = "";
    private static int sentences = 0;
    private static int passed = 0;
    private static int failed = 0;

    private Edges() { }

    /** Where in the document (a promise, a section), and its words there. */
    static void says(String where, String words) {
        heading = where + ", '" + words + "'";
        sentences++;
    }

    static void due(String call, long got, long want) {
        if (got == want) {
            passed++;
        } else {
            failed++;
            System.out.println(heading + ": " + call + " answered " + got + ", due is " + want);
        }
    }

    static void end(String name) {
        System.out.println(name + ": " + sentences + " sentences, " + passed + " passed, " + failed + " failed");
        System.exit(failed == 0 ? 0 : 1);
    }

    static ClayFort of(String text) {
        ClayFort x = new ClayFort();
        due("ground of " + text, ground(x, 3, 0, text), text.chars().filter(c -> c == ';').count());
        return x;
    }

    /** The text as the whole row of a sheet, and then the ground of it. */
    static int ground(ClayFort x, int sheet, int lane, String text) {
        row(x, sheet, lane, text.chars().toArray());
        return x.ground(sheet, lane, 0, text.length());
    }

    static void row(ClayFort x, int sheet, int lane, int... numbers) {
        x.sheet(sheet, lane, numbers.length);
        for (int k = 0; k < numbers.length; k++) {
            x.put(sheet, k, numbers[k]);
        }
    }

    static long bits(int... members) {
        long set = 0;
        for (int k : members) {
            set |= 1L << k;
        }
        return set;
    }
}
