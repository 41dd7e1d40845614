/** The edges that the document names of the looks, the promises 16 to 20; each beside its words. */
final class LookEdgeTests {

    private static final Due DUE = new Due("LookEdgeTests");

    public static void main(String[] args) {
        placesBelowZero();
        townsOnAPanel();
        panelsAtOnePlace();
        creasesFlatFoldedAndTorn();
        creasesSureAndUnsure();
        distancesAlongTheStrip();
        distancesOfPlaces();
        oneTownTwice();
        answersKept();
        panelsOfTowns();
        foldedAndTornCounts();
        widths();
        foldingsToldBothWays();
        questionsGuessesAndRefused();
        savedCounts();
        DUE.end();
    }

    private static void due(String what, long got, long want) {
        DUE.sameLong(what, got, want);
    }

    /** "Its place, which may be below 0, and 100 together." */
    private static void placesBelowZero() {
        CreaseMaps maps = Made.loaded("^||||||||");
        due("the place 0", maps.panelOf(1, 0), 100);
        due("the place -1", maps.panelOf(2, 0), 99);
        due("the place -8", maps.panelOf(9, 0), 92);
        due("the place 9", new CreaseMaps().panelOf(9, 0), 109);
    }

    /** "The towns on it, as a mask." */
    private static void townsOnAPanel() {
        CreaseMaps maps = new CreaseMaps();
        for (int panel = 0; panel < 10; panel++) {
            due("new: towns on " + panel, maps.panelOf(panel, 1), panel < 6 ? 1 << panel : 0);
        }
        due("none", maps.panelOf(9, 1), 0);
        due("all", Made.loaded("|||||||||").panelOf(0, 1), 63);
        due("all on the last", Made.loaded("|||||||||abcdef").panelOf(9, 1), 63);
        due("the first and the last", Made.loaded("||fa|||||||bcde").panelOf(2, 1), 33);
        // They lie at one place, but on two panels.
        due("b alone", Made.loaded("a^b||||||||").panelOf(1, 1), 2);
    }

    /** "Panels at its place, with itself." */
    private static void panelsAtOnePlace() {
        String[] texts = {"|||||||||", "^^^^^^^^^", "|^|^|^|^|", "^||||||||", "||||||||^", "||||^||||"};
        int[][] counts = {
            {1, 1, 1, 1, 1, 1, 1, 1, 1, 1}, {10, 10, 10, 10, 10, 10, 10, 10, 10, 10}, {5, 5, 5, 5, 5, 5, 5, 5, 5, 5},
            {2, 2, 1, 1, 1, 1, 1, 1, 1, 1}, {1, 1, 1, 1, 1, 1, 1, 1, 2, 2}, {2, 2, 2, 2, 2, 2, 2, 2, 2, 2}};
        for (int i = 0; i < texts.length; i++) {
            CreaseMaps maps = Made.loaded(texts[i]);
            for (int panel = 0; panel < 10; panel++) {
                due(texts[i] + ": at the place of " + panel, maps.panelOf(panel, 2), counts[i][panel]);
            }
        }
    }

    private static void creasesFlatFoldedAndTorn() {
        CreaseMaps maps = Made.torn();
        maps.fold(8);
        int[][] rows = {{0, 1, 1}, {0, 0, 0}, {1, 1, 0}};
        int[] creases = {0, 4, 8};
        for (int i = 0; i < creases.length; i++) {
            for (int what = 0; what < 3; what++) {
                due("creaseOf(" + creases[i] + ", " + what + ")", maps.creaseOf(creases[i], what), rows[i][what]);
            }
        }
    }

    /** "1 if it is folded in all foldings that fit, 0 if in none, NONE if in some." */
    private static void creasesSureAndUnsure() {
        CreaseMaps maps = Made.loaded("a^b|c^d|e^f||||");
        for (int crease = 0; crease < 9; crease++) {
            due("nothing asked: " + crease, maps.creaseOf(crease, 3), -1);
        }
        maps.ask(0, 1);
        maps.ask(1, 2);
        due("in all", maps.creaseOf(0, 3), 1);
        due("in none", maps.creaseOf(1, 3), 0);
        due("in some", maps.creaseOf(2, 3), -1);
        maps.forget();
        due("in all, forgotten", maps.creaseOf(0, 3), -1);
        due("in none, forgotten", maps.creaseOf(1, 3), -1);
        maps.undo();
        due("in all, forgotten and undone", maps.creaseOf(0, 3), 1);
        CreaseMaps most = new CreaseMaps();
        // Of the 384 foldings that fit, most have the crease flat, but some do not.
        most.ask(0, 2);
        due("flat in most", most.creaseOf(0, 3), -1);
        CreaseMaps torn = Made.allTorn();
        for (int crease = 0; crease < 9; crease++) {
            due("torn: " + crease, torn.creaseOf(crease, 3), 0);
        }
        due("the last crease, told by its towns", last(), 1);
    }

    private static int last() {
        CreaseMaps maps = Made.loaded("||||||||a^b");
        maps.ask(1, 0);
        return maps.creaseOf(8, 3);
    }

    /** "The distance of their panels along the strip." */
    private static void distancesAlongTheStrip() {
        CreaseMaps maps = Made.loaded("a^^^^^^^^^f");
        for (int panel = 0; panel < 10; panel++) {
            maps.move(5, panel);
            due("0 and " + panel, maps.between(0, 5, 0), panel);
            due(panel + " and 0", maps.between(5, 0, 0), panel);
        }
    }

    /** "That of the places of these." */
    private static void distancesOfPlaces() {
        CreaseMaps maps = Made.loaded("||a^||||||f");
        // The places of the panels are 0, 1, 2, 2, 1, 0, -1, -2, -3, -4.
        int[] distances = {2, 1, 0, 0, 1, 2, 3, 4, 5, 6};
        for (int panel = 0; panel < 10; panel++) {
            maps.move(5, panel);
            due("the panels 2 and " + panel, maps.between(0, 5, 1), distances[panel]);
            due("the panels " + panel + " and 2", maps.between(5, 0, 1), distances[panel]);
            due("do they touch", maps.between(0, 5, 2), panel == 2 || panel == 3 ? 1 : 0);
        }
        CreaseMaps flat = Made.loaded("a|||||||||f");
        due("the greatest", flat.between(0, 5, 1), 9);
        CreaseMaps folded = Made.loaded("a^^^^^^^^^f");
        due("far along the strip, and at one place", folded.between(0, 5, 1), 0);
        due("they touch", folded.between(0, 5, 2), 1);
    }

    /** The other town is "0 to 5", and so may be the same. */
    private static void oneTownTwice() {
        CreaseMaps maps = Made.loaded("a||||||||f|");
        int[] answers = {0, 0, 1, -1};
        for (int town = 0; town < 6; town++) {
            for (int what = 0; what < 4; what++) {
                due("between(" + town + ", itself, " + what + ")", maps.between(town, town, what), answers[what]);
            }
        }
        maps.ask(1, 2);
        due("b and c were asked, on the panel of a", maps.between(0, 0, 3), 1);
        due("not on that of f", maps.between(5, 5, 3), -1);
    }

    /** "The answer that is kept for their panels, NONE without one." */
    private static void answersKept() {
        CreaseMaps maps = Made.loaded("ab^cd|e||||||f|");
        due("without one", maps.between(0, 2, 3), -1);
        maps.ask(2, 0);
        maps.ask(4, 0);
        due("1", maps.between(0, 2, 3), 1);
        due("1, of other towns on these panels", maps.between(3, 1, 3), 1);
        due("0", maps.between(0, 4, 3), 0);
        due("0, of other towns on these panels", maps.between(1, 4, 3), 0);
        due("without one, though e was asked about", maps.between(4, 5, 3), -1);
        maps.forget();
        due("forgotten", maps.between(0, 2, 3), -1);
        maps.undo();
        due("and undone", maps.between(0, 2, 3), 1);
    }

    private static void panelsOfTowns() {
        CreaseMaps maps = Made.loaded("a|||||||||f");
        due("the first town on the first panel", maps.town(0), 0);
        due("the last town on the last panel", maps.town(5), 9);
        due("one that was not told", maps.town(3), 0);
        maps.move(0, 9);
        maps.move(5, 0);
        due("the first town on the last panel", maps.town(0), 9);
        due("the last town on the first panel", maps.town(5), 0);
    }

    private static void foldedAndTornCounts() {
        due("none folded", new CreaseMaps().count(0), 0);
        due("all folded", Made.loaded("^^^^^^^^^").count(0), 9);
        due("none torn", Made.loaded("^^^^^^^^^").count(1), 0);
        due("all torn", Made.allTorn().count(1), 9);
        due("all torn: none folded", Made.allTorn().count(0), 0);
    }

    /** "The greatest place less the least one, and 1." */
    private static void widths() {
        String[] texts = {"|||||||||", "^^^^^^^^^", "^||||||||", "||||||||^", "||||^||||", "||^||||||", "|^|^|^|^|",
            "^|^|^|^|^", "^^|||||||", "^^^^^^^^|"};
        int[] widths = {10, 1, 9, 9, 5, 7, 2, 2, 8, 2};
        for (int i = 0; i < texts.length; i++) {
            due("width of " + texts[i], Made.loaded(texts[i]).count(2), widths[i]);
        }
    }

    /** "Foldings that fit, told by all foldings", and "the same, told by walking along the strip". */
    private static void foldingsToldBothWays() {
        due("none asked, all", new CreaseMaps().count(4), 512);
        due("none asked, walked", new CreaseMaps().count(5), 512);
        due("all torn, all", Made.allTorn().count(4), 1);
        due("all torn, walked", Made.allTorn().count(5), 1);
        String[] texts = {"a|b|c|d|e|f||||", "f^e^d^c^b^a^^^^", "a|^^b^|^||^f", "||||a^b|c^d|e^f", "a^|b|^c^^d||e^f"};
        for (String text : texts) {
            CreaseMaps maps = new CreaseMaps();
            Made.type(maps, text);
            maps.load();
            int before = 512;
            for (int town = 0; town < 6; town++) {
                for (int other = 5; other > town; other--) {
                    maps.ask(town, other);
                    int fits = maps.count(4);
                    due(text + ": walked as told by all", maps.count(5), fits);
                    DUE.holds(text + ": an answer leaves no more, and one at least", fits >= 1 && fits <= before);
                    before = fits;
                }
            }
        }
        CreaseMaps ends = Made.loaded("a^^^^^^^^^f");
        ends.ask(0, 5);
        due("the ends touch, all", ends.count(4), 70);
        due("the ends touch, walked", ends.count(5), 70);
        CreaseMaps apart = Made.loaded("a|||||||||f");
        apart.ask(5, 0);
        due("the ends do not, all", apart.count(4), 442);
        due("the ends do not, walked", apart.count(5), 442);
    }

    private static void questionsGuessesAndRefused() {
        CreaseMaps maps = Made.torn();
        int[][] wants = {{1, 0, 0, 0}, {1, 0, 0, 1}, {1, 1, 1, 1}, {1, 2, 1, 1}, {1, 2, 1, 2}, {1, 2, 1, 2}};
        for (int step = 0; step < wants.length; step++) {
            switch (step) {
                case 0: maps.ask(0, 1); break;
                case 1: maps.ask(0, 1); break;
                case 2: maps.guess(0); break;
                case 3: maps.guess(1); break;
                case 4: maps.fold(0); break;
                default: maps.forget(); break;
            }
            for (int what = 6; what <= 9; what++) {
                due("step " + step + ": count(" + what + ")", maps.count(what), wants[step][what - 6]);
            }
        }
        // What throws is not refused, and not counted.
        DUE.throwsIt("ask(0, 0)", Due.ARGUMENT, () -> maps.ask(0, 0));
        DUE.throwsIt("guess(512)", Due.ARGUMENT, () -> maps.guess(512));
        DUE.throwsIt("fold(9)", Due.INDEX, () -> maps.fold(9));
        for (int what = 6; what <= 9; what++) {
            due("after what throws: count(" + what + ")", maps.count(what), wants[5][what - 6]);
        }
    }

    private static void savedCounts() {
        CreaseMaps maps = new CreaseMaps();
        for (int calls = 0; calls <= 8; calls++) {
            due("saved after " + calls, maps.count(10), Math.min(calls, 6));
            maps.guess(511);
        }
        maps.undo();
        due("saved after undo()", maps.count(10), 5);
    }
}
