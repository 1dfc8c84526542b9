import java.util.Random;

/** Any calls in any state: none throws, and each ends. */
public final class AnyCalls {
    private static final int RUNS = 1000;
    /** An object is used for 512 calls at most, and a ground takes 61 with one more. */
    private static final int CALLS = 450;
    private static final int[] EDGES = {
        0, 1, 2, 3, 4, 5, 8, 9, 10, 31, 32, 35, 36, 37, 40, 41, 59, 60, 61, 63, 64, 65, -1, -2, -9, -10, -32, -64,
        Integer.MAX_VALUE, Integer.MAX_VALUE - 1, Integer.MIN_VALUE, Integer.MIN_VALUE + 1,
    };
    private static final String[] TEXTS = {
        "p66" + "9".repeat(36) + ";g009;h559;m339;g224", "p221111;g000", "p62123456654321;h101", "p26111111111111;m009;g159",
        "p55" + "1".repeat(25) + ";g220",
    };

    private final Random random;
    private final ClayFort x = new ClayFort();
    private int calls = 0;

    private AnyCalls(long seed) {
        random = new Random(seed);
    }

    public static void main(String[] args) {
        int failed = 0;
        for (int run = 0; run < RUNS; run++) {
            try {
                new AnyCalls(run).calls();
            } catch (RuntimeException | Error e) {
                failed++;
                System.out.println("run " + run + " threw " + e);
            }
        }
        System.out.println("AnyCalls: " + (RUNS - failed) + " passed, " + failed + " failed");
        System.exit(failed == 0 ? 0 : 1);
    }

    private void calls() {
        while (calls < CALLS) {
            if (random.nextInt(30) == 0) {
                ground(TEXTS[random.nextInt(TEXTS.length)]);
            }
            call(random.nextInt(40));
            calls++;
        }
    }

    private void ground(String text) {
        x.sheet(0, 2, text.length());
        for (int k = 0; k < text.length(); k++) {
            x.put(0, k, text.charAt(k));
        }
        x.ground(0, 2, 0, text.length());
        calls += text.length() + 2;
    }

    private int any() {
        switch (random.nextInt(10)) {
            case 0: return random.nextInt();
            case 1:
            case 2: return EDGES[random.nextInt(EDGES.length)];
            case 3:
            case 4: return random.nextInt(36);
            default: return random.nextInt(4);
        }
    }

    private void call(int which) {
        switch (which) {
            case 0: x.ground(any(), any(), any(), any()); break;
            case 1: x.ofGun(any(), any()); break;
            case 2: x.clay(any()); break;
            case 3: x.soak(any(), any()); break;
            case 4: x.charge(any(), any()); break;
            case 5: x.hush(any(), random.nextBoolean()); break;
            case 6: x.haul(any(), any()); break;
            case 7: x.sees(any()); break;
            case 8: x.shot(any()); break;
            case 9: x.is(any(), any()); break;
            case 10: x.cover(any()); break;
            case 11: x.bare(); break;
            case 12: x.dig(any()); break;
            case 13: x.fill(); break;
            case 14: x.trench(any(), any(), any(), any(), any()); break;
            case 15: x.sap(any(), any()); break;
            case 16: x.rush(any(), any()); break;
            case 17: x.silence(any()); break;
            case 18: x.breach(any()); break;
            case 19: x.day(any()); break;
            default: otherCall(which);
        }
    }

    private void otherCall(int which) {
        switch (which) {
            case 20: x.post(any(), any()); break;
            case 21: x.reading(any(), random.nextBoolean()); break;
            case 22: x.back(any()); break;
            case 23: x.reaches(any()); break;
            case 24: x.kinds(any()); break;
            case 25: x.haunts(any()); break;
            case 26: x.odds(any(), any()); break;
            case 27: x.sheet(any(), any(), any()); break;
            case 28: x.lose(any()); break;
            case 29: x.put(any(), any(), any()); break;
            case 30: x.cell(any(), any(), any()); break;
            case 31: x.copy(any(), any(), any(), any(), any()); break;
            case 32: x.tell(any()); break;
            case 33: x.fire(any()); break;
            case 34: x.as(any(), any()); break;
            case 35: x.trace(); break;
            case 36: x.fault(); break;
            default: x.many(any());
        }
    }
}
