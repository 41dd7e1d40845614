/** Long runs of calls, right and wrong ones, on a CreaseMaps and a NaiveMaps side by side. */
final class ModelTests {

    private static final int RUNS = 250;
    private static final int CALLS = 511;
    private static final String MAP_SIGNS = "||||||||^^^^^^^^abcdef";

    private static final Due DUE = new Due("ModelTests");

    private final int run;
    private final CreaseMaps maps = new CreaseMaps();
    private final NaiveMaps model = new NaiveMaps();
    private long seed;
    private String told = "";

    private ModelTests(int run) {
        this.run = run;
        this.seed = 7919L * run + 17;
    }

    public static void main(String[] args) {
        for (int run = 0; run < RUNS; run++) {
            new ModelTests(run).all();
        }
        DUE.end();
    }

    private void all() {
        // Each run has a bent of its own: many questions, many foldings of few creases, or many texts.
        int bent = run % 5;
        int call = 0;
        while (call < CALLS - 40) {
            int[] due = pick(bent);
            if (due[0] == 90) {
                call += tellMap();
            } else {
                one(due);
                call++;
            }
        }
        one(new int[] {23});
    }

    private int below(int bound) {
        seed = seed * 6364136223846793005L + 1442695040888963407L;
        return (int) ((seed >>> 33) % bound);
    }

    private static int pickOf(int[] values, int index) {
        return values[index];
    }

    /** Mostly a number of the range, seldom one beside or far from it. */
    private int near(int least, int most) {
        if (below(12) > 0) {
            return least + below(most - least + 1);
        }
        return pickOf(new int[] {least - 1, most + 1, Integer.MIN_VALUE, Integer.MAX_VALUE}, below(4));
    }

    private int[] pick(int bent) {
        int kind = below(100);
        if (bent == 0 && kind < 40) {
            return new int[] {4, near(0, 5), near(0, 5)};
        }
        if (bent == 1 && kind < 40) {
            return new int[] {0, below(4) == 0 ? near(0, 8) : below(3)};
        }
        if (bent == 2 && kind < 15) {
            return new int[] {90};
        }
        if (bent == 3 && kind < 12) {
            return new int[] {4, below(6), below(6)};
        }
        if (bent == 4 && kind < 55) {
            return new int[] {kind < 48 ? 4 : 1, near(0, 5), kind < 48 ? near(0, 5) : near(0, 9)};
        }
        int what = below(bent == 4 ? 400 : 27);
        if (what >= 27) {
            what = pickOf(new int[] {17, 17, 20, 21, 22, 11}, below(6));
        }
        if (what == 25) {
            return new int[] {90};
        }
        if (what == 26) {
            what = 23;
        }
        return arguments(what);
    }

    private int[] arguments(int what) {
        switch (what) {
            case 0: return new int[] {0, near(0, 8)};
            case 1: return new int[] {1, near(0, 5), near(0, 9)};
            case 2: return new int[] {2, below(2) == 0 ? near(7, 9) : near(1, 9)};
            case 4: return new int[] {4, near(0, 5), near(0, 5)};
            case 5: return new int[] {5, near(0, 511)};
            case 7: return new int[] {7, near(33, 126)};
            case 11: return new int[] {11, near(0, 1)};
            case 12: return new int[] {12, near(0, 1)};
            case 14: return new int[] {14, near(0, 9), near(0, 2)};
            case 15: return new int[] {15, near(0, 8), near(0, 3)};
            case 16: return new int[] {16, near(0, 5), near(0, 5), near(0, 3)};
            case 17: return new int[] {17, near(0, 5)};
            case 18: return new int[] {18, near(0, 10)};
            case 19: return new int[] {19, near(0, 5), near(0, 5)};
            case 21: return new int[] {21, below(3) == 0 ? near(0, 511) : near(0, 9)};
            default: return new int[] {what};
        }
    }

    /** Appends a text that is a map, or nearly one, and loads it. */
    private int tellMap() {
        one(new int[] {8});
        StringBuilder text = new StringBuilder();
        for (int k = 0; k < 9; k++) {
            text.append(below(2) == 0 ? '|' : '^');
        }
        for (char town = 'a'; town <= 'f'; town++) {
            if (below(5) > 0) {
                text.insert(below(text.length() + 1), town);
            }
        }
        if (below(4) == 0) {
            int at = below(text.length());
            text.setCharAt(at, below(3) == 0 ? (char) (33 + below(94)) : MAP_SIGNS.charAt(below(22)));
        }
        if (below(8) == 0) {
            text.deleteCharAt(below(text.length()));
        }
        for (int i = 0; i < text.length(); i++) {
            one(new int[] {7, text.charAt(i)});
        }
        one(new int[] {9});
        one(new int[] {10});
        return text.length() + 3;
    }

    private void one(int[] call) {
        String got = answer(call, true);
        String want = answer(call, false);
        told = call[0] + " of " + java.util.Arrays.toString(call);
        DUE.sameText("run " + run + ", call " + told, got, want);
    }

    private String answer(int[] c, boolean real) {
        try {
            return Long.toString(real ? ofMaps(c) : ofModel(c));
        } catch (RuntimeException e) {
            return e.getClass().getName();
        }
    }

    private long ofMaps(int[] c) {
        switch (c[0]) {
            case 0: return maps.fold(c[1]);
            case 1: return maps.move(c[1], c[2]);
            case 2: return maps.pull(c[1]);
            case 3: return maps.renew();
            case 4: return maps.ask(c[1], c[2]);
            case 5: return maps.guess(c[1]);
            case 6: return maps.forget();
            case 7: return maps.append(c[1]);
            case 8: return maps.clearBuffer();
            case 9: return maps.firstError();
            case 10: return maps.load();
            case 11: return maps.keep(c[1]);
            case 12: return maps.goBack(c[1]);
            case 13: return maps.undo();
            case 14: return maps.panelOf(c[1], c[2]);
            case 15: return maps.creaseOf(c[1], c[2]);
            case 16: return maps.between(c[1], c[2], c[3]);
            case 17: return maps.town(c[1]);
            case 18: return maps.count(c[1]);
            case 19: return maps.ifTouching(c[1], c[2]);
            case 20: return maps.bestQuestion();
            case 21: return maps.folding(c[1]);
            case 22: return maps.weakest();
            case 23: return maps.digest();
            default: return Double.doubleToLongBits(maps.sureShare());
        }
    }

    private long ofModel(int[] c) {
        switch (c[0]) {
            case 0: return model.fold(c[1]);
            case 1: return model.move(c[1], c[2]);
            case 2: return model.pull(c[1]);
            case 3: return model.renew();
            case 4: return model.ask(c[1], c[2]);
            case 5: return model.guess(c[1]);
            case 6: return model.forget();
            case 7: return model.append(c[1]);
            case 8: return model.clearBuffer();
            case 9: return model.firstError();
            case 10: return model.load();
            case 11: return model.keep(c[1]);
            case 12: return model.goBack(c[1]);
            case 13: return model.undo();
            case 14: return model.panelOf(c[1], c[2]);
            case 15: return model.creaseOf(c[1], c[2]);
            case 16: return model.between(c[1], c[2], c[3]);
            case 17: return model.town(c[1]);
            case 18: return model.count(c[1]);
            case 19: return model.ifTouching(c[1], c[2]);
            case 20: return model.bestQuestion();
            case 21: return model.folding(c[1]);
            case 22: return model.weakest();
            case 23: return model.digest();
            default: return Double.doubleToLongBits(model.sureShare());
        }
    }
}
