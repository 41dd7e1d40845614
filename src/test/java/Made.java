/** Objects in the states that several tests start from. */
final class Made {

    /** A map with all towns: the folded creases are 0, 1, 3, 6 and 7. No map as a text is longer. */
    static final String LONGEST_MAP = "ab^^c|^d||^e^f|";
    /** The map that a new object has. */
    static final String FIRST_MAP = "a|b|c|d|e|f||||";

    private Made() {
    }

    static void type(CreaseMaps maps, String text) {
        for (int i = 0; i < text.length(); i++) {
            maps.append(text.charAt(i));
        }
    }

    static CreaseMaps typed(String text) {
        CreaseMaps maps = new CreaseMaps();
        type(maps, text);
        return maps;
    }

    static CreaseMaps loaded(String text) {
        CreaseMaps maps = typed(text);
        maps.load();
        return maps;
    }

    static void foldTimes(CreaseMaps maps, int crease, int times) {
        for (int i = 0; i < times; i++) {
            maps.fold(crease);
        }
    }

    /** A strip whose crease 0 is torn with a wear of 1. */
    static CreaseMaps torn() {
        CreaseMaps maps = new CreaseMaps();
        maps.fold(0);
        maps.pull(9);
        return maps;
    }

    /** A strip with but one folding left. */
    static CreaseMaps allTorn() {
        CreaseMaps maps = new CreaseMaps();
        for (int crease = 0; crease < 9; crease++) {
            maps.fold(crease);
        }
        maps.pull(9);
        return maps;
    }

    /** A new strip of which the first questions, by rising towns, are answered: at most 12 of them. */
    static CreaseMaps asked(int questions) {
        CreaseMaps maps = new CreaseMaps();
        int asked = 0;
        for (int town = 0; town < 6; town++) {
            for (int other = town + 1; other < 6; other++) {
                if (asked < questions) {
                    maps.ask(town, other);
                    asked++;
                }
            }
        }
        return maps;
    }

    /**
     * Something of all: the crease 0 is torn and the crease 3 folded, 2 answers are kept, the slot 0 has a snapshot,
     * 5 states are saved, and the buffer has a text that is no map.
     */
    static CreaseMaps rich() {
        CreaseMaps maps = new CreaseMaps();
        maps.ask(2, 4);
        maps.keep(0);
        maps.undo();
        maps.fold(0);
        maps.pull(9);
        maps.fold(3);
        maps.ask(0, 1);
        maps.ask(1, 5);
        type(maps, "ab||g");
        return maps;
    }

    /** As full as can be: 12 answers, 60 characters, 2 snapshots and 6 saved states. */
    static CreaseMaps full() {
        CreaseMaps maps = new CreaseMaps();
        maps.keep(1);
        maps.move(5, 9);
        maps.keep(0);
        for (int town = 0; town < 3; town++) {
            for (int other = town + 1; other < 6; other++) {
                maps.ask(town, other);
            }
        }
        maps.ask(3, 4);
        maps.guess(3);
        type(maps, "|^".repeat(30));
        return maps;
    }

    /**
     * The saved states have the town 5 on the panels 5, 9, 8, 7, 6 and 4, the oldest one first; the crease 0 is torn,
     * the crease 3 folded, and one answer kept.
     */
    static CreaseMaps sixSaved() {
        CreaseMaps maps = torn();
        maps.fold(3);
        maps.keep(0);
        for (int panel : new int[] {9, 8, 7, 6, 4}) {
            maps.move(5, panel);
        }
        maps.ask(0, 1);
        return maps;
    }
}
