import java.util.ArrayList;
import java.util.List;
import java.util.Random;

/**
 * Sap and rush on large grounds with little water, where the model can't try all ways: here the best way to each
 * cell grows cell by cell from column 0 on, whole rows compared.
 */
public final class LargeGrounds {
    private static final int GROUNDS = 150;

    public static void main(String[] args) {
        int failed = 0;
        for (int n = 0; n < GROUNDS; n++) {
            String wrong = firstWrong(new Random(n));
            if (wrong != null) {
                failed++;
                System.out.println("ground " + n + ": " + wrong);
            }
        }
        System.out.println("LargeGrounds: " + (GROUNDS - failed) + " passed, " + failed + " failed");
        System.exit(failed == 0 ? 0 : 1);
    }

    private static String firstWrong(Random random) {
        String text = text(random);
        Model model = new Model();
        model.take(text);
        int[] dug = random.ints(12, 0, model.clay.length).toArray();
        for (int c : dug) {
            model.dig(c);
        }
        for (int rush = 0; rush < 2; rush++) {
            Model.Way[] best = bestWays(model, rush == 1);
            for (int c = 0; c < best.length; c++) {
                ClayFort fort = fort(text, dug);
                for (int k = rush == 1 ? -3 : -2; k < 36; k++) {
                    int got = rush == 1 ? fort.rush(c, k) : fort.sap(c, k);
                    if (got != model.told(best[c], k)) {
                        return text + ": rush " + rush + " to " + c + ", " + k + ": " + got;
                    }
                }
            }
        }
        return null;
    }

    private static ClayFort fort(String text, int[] dug) {
        ClayFort fort = new ClayFort();
        fort.sheet(0, 0, text.length());
        for (int k = 0; k < text.length(); k++) {
            fort.put(0, k, text.charAt(k));
        }
        fort.ground(0, 0, 0, text.length());
        for (int c : dug) {
            fort.dig(c);
        }
        return fort;
    }

    private static String text(Random random) {
        int wide = 4 + random.nextInt(3);
        int high = 4 + random.nextInt(3);
        int heaviest = random.nextInt(3) == 0 ? 1 : 1 + random.nextInt(9);
        StringBuilder b = new StringBuilder("p").append(wide).append(high);
        for (int c = 0; c < wide * high; c++) {
            b.append(random.nextInt(8) == 0 ? 0 : 1 + random.nextInt(heaviest));
        }
        for (int g = 0; g < 1 + random.nextInt(4); g++) {
            b.append(';').append("ghm".charAt(random.nextInt(3))).append(random.nextInt(wide));
            b.append(random.nextInt(high)).append(random.nextInt(4));
        }
        return b.toString();
    }

    private static Model.Way[] bestWays(Model model, boolean rush) {
        Model.Way[] best = new Model.Way[model.clay.length];
        boolean isBetter = true;
        while (isBetter) {
            isBetter = false;
            for (int c = 0; c < best.length; c++) {
                if (!model.isSoil(c) || !rush && model.isShot(c)) {
                    continue;
                }
                for (Model.Way way : longer(model, best, c)) {
                    if (way.isAheadOf(best[c], rush)) {
                        best[c] = way;
                        isBetter = true;
                    }
                }
            }
        }
        return best;
    }

    private static List<Model.Way> longer(Model model, Model.Way[] best, int c) {
        int shot = model.isShot(c) ? 1 : 0;
        int nights = model.dug.contains(c) ? 0 : model.clay[c];
        List<Model.Way> all = new ArrayList<>();
        if (model.column(c) == 0) {
            all.add(new Model.Way(List.of(c), shot, nights));
        }
        for (int ahead = 0; ahead < best.length; ahead++) {
            if (best[ahead] != null && model.isNext(c, ahead)) {
                List<Integer> row = new ArrayList<>(best[ahead].row());
                row.add(c);
                all.add(new Model.Way(row, best[ahead].shot() + shot, best[ahead].nights() + nights));
            }
        }
        return all;
    }
}
