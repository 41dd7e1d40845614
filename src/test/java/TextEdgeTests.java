/** The edges that the document names of texts: "Input text", and the promises 9 to 12; each beside its words. */
final class TextEdgeTests {

    private static final String MAP_SIGNS = "abcdef|^";
    private static final String NINE = "|||||||||";

    private static final Due DUE = new Due("TextEdgeTests");

    public static void main(String[] args) {
        appendUpToSixty();
        appendToFullBuffers();
        appendSavesNothing();
        clearBufferOfNoneAndOfSixty();
        clearBufferSavesNothing();
        errorOfAnEmptyBuffer();
        errorOfEachCharacter();
        errorOfALetterTwice();
        errorOfATenthCrease();
        errorBehindTheLongestMap();
        errorOfFullBuffers();
        firstOfSeveralErrors();
        noErrorOfWhatIsUnfinished();
        loadOfTheShortestAndTheLongest();
        loadOfEachCrease();
        loadOfEachTownOnEachPanel();
        loadOfNoMap();
        loadOfANewStrip();
        loadClearsTheBuffer();
        loadOfTheSameMap();
        DUE.end();
    }

    private static void due(String what, long got, long want) {
        DUE.sameLong(what, got, want);
    }

    private static void error(String text, int want) {
        CreaseMaps maps = Made.typed(text);
        due("firstError() of " + text, maps.firstError(), want);
        due("firstError() of " + text + " once more", maps.firstError(), want);
        due("firstError() leaves " + text, maps.clearBuffer(), text.length());
    }

    /** "Returns the new length of the buffer"; it "has at most 60 characters". */
    private static void appendUpToSixty() {
        CreaseMaps maps = new CreaseMaps();
        for (int length = 1; length <= 60; length++) {
            due("append to " + length, maps.append(33 + length), length);
        }
        DUE.throwsIt("append to 61", Due.STATE, () -> maps.append('|'));
        due("60 are left", maps.clearBuffer(), 60);
    }

    /** "If several exceptions apply, the one that is named first": the code, then the full buffer. */
    private static void appendToFullBuffers() {
        CreaseMaps maps = Made.typed("a".repeat(60));
        DUE.throwsIt("full: append(32)", Due.ARGUMENT, () -> maps.append(32));
        DUE.throwsIt("full: append(127)", Due.ARGUMENT, () -> maps.append(127));
        DUE.throwsIt("full: append(33)", Due.STATE, () -> maps.append(33));
        DUE.throwsIt("full: append(126)", Due.STATE, () -> maps.append(126));
        maps.clearBuffer();
        due("cleared: append('a')", maps.append('a'), 1);
        CreaseMaps last = Made.typed("a".repeat(59));
        DUE.throwsIt("59: append(32)", Due.ARGUMENT, () -> last.append(32));
        due("59: append(33)", last.append(33), 60);
    }

    private static void appendSavesNothing() {
        DUE.sameText("append changes", Seen.changes(Made::rich, m -> m.append('x')), "");
        CreaseMaps maps = Made.sixSaved();
        maps.append('a');
        for (int panel : new int[] {4, 6, 7, 8, 9, 5}) {
            maps.undo();
            due("append, then undo", maps.town(5), panel);
        }
        due("the buffer is in no saved state", maps.clearBuffer(), 1);
    }

    /** "Returns the length that it had." */
    private static void clearBufferOfNoneAndOfSixty() {
        CreaseMaps maps = new CreaseMaps();
        due("of an empty one", maps.clearBuffer(), 0);
        maps.append('|');
        due("of one", maps.clearBuffer(), 1);
        due("of an empty one again", maps.clearBuffer(), 0);
        Made.type(maps, "^".repeat(60));
        due("of 60", maps.clearBuffer(), 60);
        due("no error is left", maps.firstError(), 0);
        Made.type(maps, NINE);
        due("what is typed then is a map", maps.load(), 0);
    }

    private static void clearBufferSavesNothing() {
        DUE.sameText("clearBuffer changes", Seen.changes(Made::rich, CreaseMaps::clearBuffer), "");
        CreaseMaps maps = Made.sixSaved();
        Made.type(maps, "ab");
        maps.clearBuffer();
        maps.undo();
        due("clearBuffer, then undo", maps.town(5), 4);
        due("the buffer stays empty", maps.clearBuffer(), 0);
    }

    /** "The length of the buffer if there is none." */
    private static void errorOfAnEmptyBuffer() {
        error("", 0);
    }

    /** "Letters a to f", and "|" and "^" alone. */
    private static void errorOfEachCharacter() {
        for (int code = 33; code <= 126; code++) {
            String sign = String.valueOf((char) code);
            int isNone = MAP_SIGNS.contains(sign) ? 1 : 0;
            error(sign, isNone);
            error("|" + sign, 1 + isNone);
        }
    }

    /** "No letter twice in all": on one panel, and on two. */
    private static void errorOfALetterTwice() {
        for (char town = 'a'; town <= 'f'; town++) {
            error("" + town + town, 1);
            error(town + "|" + town, 2);
            error(town + "^" + town + "|", 2);
            error(town + NINE + town, 10);
        }
        error("fedcba", 6);
        error("abcdefa", 6);
        error("abcdeff", 6);
    }

    /** "A map as a text is 10 panels": between them are 9 creases. */
    private static void errorOfATenthCrease() {
        error("||||||||", 8);
        error(NINE, 9);
        error("^^^^^^^^^", 9);
        error(NINE + "|", 9);
        error(NINE + "^", 9);
        error("^^^^^^^^^|", 9);
        error(NINE + "a", 10);
        error(NINE + "a|", 10);
        error("abcdef" + NINE + "|", 15);
        error(NINE + "abcdef", 15);
    }

    /** No map goes on behind all towns and all creases. */
    private static void errorBehindTheLongestMap() {
        due("the longest map", Made.LONGEST_MAP.length(), 15);
        error(Made.LONGEST_MAP, 15);
        for (int code = 33; code <= 126; code++) {
            error(Made.LONGEST_MAP + (char) code, 15);
        }
    }

    private static void errorOfFullBuffers() {
        error("!".repeat(60), 0);
        error("|".repeat(60), 9);
        error("a".repeat(60), 1);
        error(Made.LONGEST_MAP + "~".repeat(45), 15);
    }

    /** "Finds the first syntax error": what is behind it does not matter. */
    private static void firstOfSeveralErrors() {
        error("xx", 0);
        error("x|||||||||", 0);
        error("|x|y|", 1);
        error("aab", 1);
        error("aaa", 1);
        error("ab|b|a", 3);
        error("ab|xa", 3);
        error(NINE + "||", 9);
        error("a||||||||||a", 10);
        error("a|||a||||||", 4);
    }

    /** A map that is not told to its end has no error. */
    private static void noErrorOfWhatIsUnfinished() {
        for (int length = 0; length <= Made.LONGEST_MAP.length(); length++) {
            error(Made.LONGEST_MAP.substring(0, length), length);
        }
    }

    /** "Any number of towns"; "towns that are not told lie on the panel 0"; "returns how many creases are folded". */
    private static void loadOfTheShortestAndTheLongest() {
        CreaseMaps none = Made.typed(NINE);
        due("no towns, no folded creases", none.load(), 0);
        for (int town = 0; town < 6; town++) {
            due("a town that is not told", none.town(town), 0);
        }
        CreaseMaps folded = Made.typed("^^^^^^^^^");
        due("all folded", folded.load(), 9);
        due("all folded: count(0)", folded.count(0), 9);
        CreaseMaps longest = Made.typed(Made.LONGEST_MAP);
        due("the longest map", longest.load(), 5);
        int[] panels = {0, 0, 2, 4, 7, 8};
        for (int town = 0; town < 6; town++) {
            due("the longest map: town(" + town + ")", longest.town(town), panels[town]);
        }
        CreaseMaps last = Made.loaded(NINE + "fedcba");
        due("all on the panel 9", last.panelOf(9, 1), 63);
        CreaseMaps first = Made.loaded("fbdace" + NINE);
        due("all on the panel 0", first.panelOf(0, 1), 63);
    }

    private static void loadOfEachCrease() {
        for (int crease = 0; crease < 9; crease++) {
            StringBuilder text = new StringBuilder(NINE);
            text.setCharAt(crease, '^');
            CreaseMaps maps = Made.typed(text.toString());
            due("load() of " + text, maps.load(), 1);
            due(text + " tells the crease " + crease, maps.guess(1 << crease), 10);
        }
    }

    private static void loadOfEachTownOnEachPanel() {
        for (int town = 0; town < 6; town++) {
            for (int panel = 0; panel < 10; panel++) {
                String text = NINE.substring(0, panel) + (char) ('a' + town) + NINE.substring(panel);
                CreaseMaps maps = Made.loaded(text);
                for (int other = 0; other < 6; other++) {
                    due(text + ": town(" + other + ")", maps.town(other), other == town ? panel : 0);
                }
            }
        }
    }

    /** "If the buffer does not tell a map as a text" it throws, and then "the buffer stays as it is, too". */
    private static void loadOfNoMap() {
        String[] texts = {"", "|", "a", "||||||||", "^^^^^^^^", "abcdef||||||||", "||||||||||", NINE + "^", NINE + "g",
            "g" + NINE, "a|||a||||||", "aa" + NINE, "A" + NINE, "x", Made.LONGEST_MAP + "a", Made.LONGEST_MAP + "|",
            "|".repeat(60), "^".repeat(60), NINE + "!".repeat(51), Made.LONGEST_MAP + Made.LONGEST_MAP};
        for (String text : texts) {
            CreaseMaps maps = Made.asked(3);
            maps.keep(1);
            Made.type(maps, text);
            long before = maps.digest();
            DUE.throwsIt("load() of " + text, Due.ARGUMENT, maps::load);
            due("load() of " + text + " changes nothing", maps.digest(), before);
            due("load() of " + text + " saves nothing", maps.count(10), 3);
            due("load() of " + text + " leaves the buffer", maps.clearBuffer(), text.length());
        }
    }

    /** "A new strip, folded as it tells, without wear." */
    private static void loadOfANewStrip() {
        CreaseMaps maps = Made.allTorn();
        maps.move(5, 9);
        maps.ask(0, 1);
        maps.ask(0, 1);
        maps.guess(0);
        Made.type(maps, "^||||||||");
        due("load()", maps.load(), 1);
        due("none is torn", maps.count(1), 0);
        due("all can be folded", maps.count(4), 512);
        for (int crease = 0; crease < 9; crease++) {
            due("wear of " + crease, maps.creaseOf(crease, 1), 0);
        }
        due("no answers", maps.count(3), 0);
        due("the town 5 is not told", maps.town(5), 0);
        for (int what = 6; what <= 9; what++) {
            due("count(" + what + ") goes on", maps.count(what), 1);
        }
    }

    /** "And clears the buffer. Undoable": the saved state is without the buffer. */
    private static void loadClearsTheBuffer() {
        CreaseMaps maps = Made.typed(NINE);
        maps.load();
        DUE.throwsIt("load() again", Due.ARGUMENT, maps::load);
        due("the buffer is empty", maps.clearBuffer(), 0);
        due("append then", maps.append('a'), 1);
        due("saved", maps.count(10), 1);
        due("undo()", maps.undo(), 0);
        due("the town 5 as it was", maps.town(5), 5);
        due("the buffer is as it is, not as it was", maps.clearBuffer(), 1);
    }

    /** Undoable "also if it changes nothing". */
    private static void loadOfTheSameMap() {
        DUE.sameText("load() of the map that is changes",
                Seen.changes(() -> Made.typed(Made.FIRST_MAP), CreaseMaps::load), "count(10) 0>1");
    }
}
