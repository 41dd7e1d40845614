/** Long runs of calls, right and wrong ones, on a CreaseMaps and a NaiveMaps side by side. */
final class ModelTests {

    private record Call(String name, int a, int b, int c) {
    }

    private static final int RUNS = 250;
    private static final int CALLS = 511;
    private static final int LONGEST_TEXT = 40;
    private static final String MAP_SIGNS = "||||||||^^^^^^^^abcdef";
    private static final String[] NAMES = {
        "fold", "move", "pull", "renew", "ask", "guess", "forget", "append", "clearBuffer", "firstError", "load",
        "keep", "goBack", "undo", "panelOf", "creaseOf", "between", "town", "count", "ifTouching", "bestQuestion",
        "folding", "weakest", "sureShare", "digest", "digest", "tellMap"};
    /** Calls that leave the answers and the creases as they are, so that runs of questions get far. */
    private static final String[] QUIET_NAMES = {
        "keep", "town", "count", "count", "ifTouching", "bestQuestion", "creaseOf", "folding", "weakest", "guess"};

    private static final Due DUE = new Due("ModelTests");

    private final int run;
    private final CreaseMaps maps = new CreaseMaps();
    private final NaiveMaps model = new NaiveMaps();
    private long seed;
    private int calls;

    private ModelTests(int run) {
        this.run = run;
        this.seed = 7919L * run + 17;
    }

    public static void main(String[] args) {
        for (int run = 0; run < RUNS; run++) {
            new ModelTests(run).all();
        }
        DUE.end();
    }

    private void all() {
        // Each run has a bent of its own, as evenly mixed calls seldom get far from a new object.
        int bent = run % 5;
        while (calls < CALLS - LONGEST_TEXT) {
            String name = pickName(bent);
            if (name.equals("tellMap")) {
                tellMap();
            } else {
                one(withArguments(name, bent));
            }
        }
        one(new Call("digest", 0, 0, 0));
    }

    private int below(int bound) {
        seed = seed * 6364136223846793005L + 1442695040888963407L;
        return (int) ((seed >>> 33) % bound);
    }

    /** Mostly a number of the range, seldom one beside or far from it. */
    private int near(int least, int most) {
        if (below(12) > 0) {
            return least + below(most - least + 1);
        }
        int[] wrong = {least - 1, most + 1, Integer.MIN_VALUE, Integer.MAX_VALUE};
        return wrong[below(wrong.length)];
    }

    private String pickName(int bent) {
        int kind = below(100);
        if (bent == 0 && kind < 40) {
            return "ask";
        }
        if (bent == 1 && kind < 40) {
            return "fold";
        }
        if (bent == 2 && kind < 15) {
            return "tellMap";
        }
        if (bent == 3 && kind < 96) {
            return kind < 50 ? "ask" : QUIET_NAMES[below(QUIET_NAMES.length)];
        }
        return NAMES[below(NAMES.length)];
    }

    private Call withArguments(String name, int bent) {
        switch (name) {
            case "fold": return new Call(name, bent == 1 && below(4) > 0 ? below(3) : near(0, 8), 0, 0);
            case "move": return new Call(name, near(0, 5), near(0, 9), 0);
            case "pull": return new Call(name, below(2) == 0 ? near(7, 9) : near(1, 9), 0, 0);
            case "ask", "ifTouching": return new Call(name, near(0, 5), near(0, 5), 0);
            case "guess": return new Call(name, near(0, 511), 0, 0);
            case "append": return new Call(name, near(33, 126), 0, 0);
            case "keep", "goBack": return new Call(name, near(0, 1), 0, 0);
            case "panelOf": return new Call(name, near(0, 9), near(0, 2), 0);
            case "creaseOf": return new Call(name, near(0, 8), near(0, 3), 0);
            case "between": return new Call(name, near(0, 5), near(0, 5), near(0, 3));
            case "town": return new Call(name, near(0, 5), 0, 0);
            case "count": return new Call(name, near(0, 10), 0, 0);
            case "folding": return new Call(name, below(3) == 0 ? near(0, 511) : near(0, 9), 0, 0);
            default: return new Call(name, 0, 0, 0);
        }
    }

    /** Appends a text that is a map, or nearly one, and loads it. */
    private void tellMap() {
        one(new Call("clearBuffer", 0, 0, 0));
        StringBuilder text = new StringBuilder();
        for (int k = 0; k < 9; k++) {
            text.append(below(2) == 0 ? '|' : '^');
        }
        for (char town = 'a'; town <= 'f'; town++) {
            if (below(5) > 0) {
                text.insert(below(text.length() + 1), town);
            }
        }
        if (below(4) == 0) {
            char other = below(3) == 0 ? (char) (33 + below(94)) : MAP_SIGNS.charAt(below(MAP_SIGNS.length()));
            text.setCharAt(below(text.length()), other);
        }
        if (below(8) == 0) {
            text.deleteCharAt(below(text.length()));
        }
        for (int i = 0; i < text.length(); i++) {
            one(new Call("append", text.charAt(i), 0, 0));
        }
        one(new Call("firstError", 0, 0, 0));
        one(new Call("load", 0, 0, 0));
    }

    private void one(Call call) {
        calls++;
        DUE.sameText("run " + run + ", call " + calls + ", " + call, answer(call, true), answer(call, false));
    }

    private String answer(Call call, boolean real) {
        try {
            return Long.toString(real ? ofMaps(call) : ofModel(call));
        } catch (RuntimeException e) {
            return e.getClass().getName();
        }
    }

    private long ofMaps(Call call) {
        switch (call.name) {
            case "fold": return maps.fold(call.a);
            case "move": return maps.move(call.a, call.b);
            case "pull": return maps.pull(call.a);
            case "renew": return maps.renew();
            case "ask": return maps.ask(call.a, call.b);
            case "guess": return maps.guess(call.a);
            case "forget": return maps.forget();
            case "append": return maps.append(call.a);
            case "clearBuffer": return maps.clearBuffer();
            case "firstError": return maps.firstError();
            case "load": return maps.load();
            case "keep": return maps.keep(call.a);
            case "goBack": return maps.goBack(call.a);
            case "undo": return maps.undo();
            case "panelOf": return maps.panelOf(call.a, call.b);
            case "creaseOf": return maps.creaseOf(call.a, call.b);
            case "between": return maps.between(call.a, call.b, call.c);
            case "town": return maps.town(call.a);
            case "count": return maps.count(call.a);
            case "ifTouching": return maps.ifTouching(call.a, call.b);
            case "bestQuestion": return maps.bestQuestion();
            case "folding": return maps.folding(call.a);
            case "weakest": return maps.weakest();
            case "sureShare": return Double.doubleToLongBits(maps.sureShare());
            case "digest": return maps.digest();
            default: throw new AssertionError(call.name);
        }
    }

    private long ofModel(Call call) {
        switch (call.name) {
            case "fold": return model.fold(call.a);
            case "move": return model.move(call.a, call.b);
            case "pull": return model.pull(call.a);
            case "renew": return model.renew();
            case "ask": return model.ask(call.a, call.b);
            case "guess": return model.guess(call.a);
            case "forget": return model.forget();
            case "append": return model.append(call.a);
            case "clearBuffer": return model.clearBuffer();
            case "firstError": return model.firstError();
            case "load": return model.load();
            case "keep": return model.keep(call.a);
            case "goBack": return model.goBack(call.a);
            case "undo": return model.undo();
            case "panelOf": return model.panelOf(call.a, call.b);
            case "creaseOf": return model.creaseOf(call.a, call.b);
            case "between": return model.between(call.a, call.b, call.c);
            case "town": return model.town(call.a);
            case "count": return model.count(call.a);
            case "ifTouching": return model.ifTouching(call.a, call.b);
            case "bestQuestion": return model.bestQuestion();
            case "folding": return model.folding(call.a);
            case "weakest": return model.weakest();
            case "sureShare": return Double.doubleToLongBits(model.sureShare());
            case "digest": return model.digest();
            default: throw new AssertionError(call.name);
        }
    }
}
