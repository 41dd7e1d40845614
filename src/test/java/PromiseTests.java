/** Each promise of the document by itself: ordinary inputs, its edges and wrong inputs, with answers told by hand. */
final class PromiseTests {

    /** Computed by hand from the list of promise 26, so that the class and the naive model cannot drift together. */
    private static final long NEW_DIGEST = -6485961066790205214L;

    private static final Due DUE = new Due("PromiseTests");

    public static void main(String[] args) {
        newObject();
        fold();
        move();
        pull();
        renew();
        ask();
        askRefused();
        guess();
        forget();
        append();
        clearBuffer();
        firstError();
        load();
        keep();
        goBack();
        undo();
        everyUndoableCallSaves();
        panelOf();
        creaseOf();
        between();
        town();
        count();
        countOfFoldings();
        ifTouching();
        bestQuestion();
        folding();
        weakest();
        sureShare();
        digest();
        looksChangeNothing();
        throwingChangesNothing();
        DUE.end();
    }

    private static void due(String call, long got, long want) {
        DUE.sameLong(call, got, want);
    }

    // ---- promise 1
    private static void newObject() {
        CreaseMaps maps = new CreaseMaps();
        int[] counts = {0, 0, 10, 0, 512, 512, 0, 0, 0, 0, 0};
        for (int what = 0; what < counts.length; what++) {
            due("new: count(" + what + ")", maps.count(what), counts[what]);
        }
        for (int panel = 0; panel < 10; panel++) {
            due("new: place of " + panel, maps.panelOf(panel, 0), 100 + panel);
        }
        for (int town = 0; town < 6; town++) {
            due("new: town(" + town + ")", maps.town(town), town);
        }
        for (int crease = 0; crease < 9; crease++) {
            for (int what = 0; what < 3; what++) {
                due("new: creaseOf(" + crease + ", " + what + ")", maps.creaseOf(crease, what), 0);
            }
        }
        due("new: clearBuffer()", maps.clearBuffer(), 0);
        DUE.throwsIt("new: goBack(0)", Due.STATE, () -> maps.goBack(0));
        DUE.throwsIt("new: goBack(1)", Due.STATE, () -> maps.goBack(1));
        DUE.throwsIt("new: undo()", Due.STATE, maps::undo);
        due("NONE", CreaseMaps.NONE, -1);
        CreaseMaps other = new CreaseMaps();
        other.fold(3);
        due("objects share nothing", maps.count(0), 0);
    }

    // ---- promise 2
    private static void fold() {
        CreaseMaps maps = new CreaseMaps();
        due("fold(4)", maps.fold(4), 1);
        due("wear", maps.creaseOf(4, 1), 1);
        due("fold(4) again", maps.fold(4), 0);
        due("wear", maps.creaseOf(4, 1), 2);
        due("fold(0)", maps.fold(0), 1);
        due("fold(8)", maps.fold(8), 1);
        due("folded", maps.count(0), 2);
        due("saved by fold", maps.count(10), 4);
        maps.ask(0, 1);
        maps.fold(1);
        due("fold takes answers away", maps.count(3), 0);

        CreaseMaps torn = Made.torn();
        torn.ask(0, 1);
        int saved = torn.count(10);
        due("fold of a torn crease", torn.fold(0), -1);
        due("torn stays flat", torn.creaseOf(0, 0), 0);
        due("torn keeps its wear", torn.creaseOf(0, 1), 1);
        due("refused fold is counted", torn.count(9), 1);
        due("refused fold leaves the answers", torn.count(3), 1);
        due("refused fold saves", torn.count(10), saved + 1);
        torn.undo();
        due("refused count is undone", torn.count(9), 0);
        for (int crease : new int[] {-1, 9, Due.LOW, Due.HIGH}) {
            DUE.throwsIt("fold(" + crease + ")", Due.INDEX, () -> maps.fold(crease));
        }
    }

    // ---- promise 3
    private static void move() {
        CreaseMaps maps = new CreaseMaps();
        due("move(2, 9)", maps.move(2, 9), 2);
        due("move(2, 0)", maps.move(2, 0), 9);
        due("town(2)", maps.town(2), 0);
        due("two towns on a panel", maps.panelOf(0, 1), 5);
        maps.ask(0, 1);
        due("move to the same panel", maps.move(2, 0), 0);
        due("it takes answers away, too", maps.count(3), 0);
        due("saved by move", maps.count(10), 4);
        for (int wrong : new int[] {-1, 6, Due.LOW, Due.HIGH}) {
            DUE.throwsIt("move(" + wrong + ", 0)", Due.INDEX, () -> maps.move(wrong, 0));
            DUE.throwsIt("move(" + wrong + ", 10)", Due.INDEX, () -> maps.move(wrong, 10));
        }
        for (int wrong : new int[] {-1, 10, Due.LOW, Due.HIGH}) {
            DUE.throwsIt("move(0, " + wrong + ")", Due.ARGUMENT, () -> maps.move(0, wrong));
        }
    }

    // ---- promise 4
    private static void pull() {
        CreaseMaps maps = new CreaseMaps();
        Made.foldTimes(maps, 0, 1);
        Made.foldTimes(maps, 1, 3);
        Made.foldTimes(maps, 2, 4);
        Made.foldTimes(maps, 3, 9);
        due("pull(6): 4 needed, only crease 3 is folded with it", maps.pull(6), 1);
        due("torn 3", maps.creaseOf(3, 2), 1);
        due("torn 3 is flat", maps.creaseOf(3, 0), 0);
        due("torn 3 keeps its wear", maps.creaseOf(3, 1), 9);
        due("flat 2 is whole", maps.creaseOf(2, 2), 0);
        maps.ask(0, 1);
        due("pull(1): 9 needed", maps.pull(1), 0);
        due("answers stay when nothing tears", maps.count(3), 1);
        int saved = maps.count(10);
        due("pull(7): 3 needed", maps.pull(7), 1);
        due("a tear takes answers away", maps.count(3), 0);
        due("saved by pull", maps.count(10), Math.min(6, saved + 1));
        due("pull(8): 2 needed", maps.pull(8), 0);
        due("pull(9): 1 needed", maps.pull(9), 1);
        due("torn ones", maps.count(1), 3);
        CreaseMaps told = Made.loaded("^^^^^^^^^");
        due("without wear nothing tears", told.pull(9), 0);
        CreaseMaps strong = new CreaseMaps();
        Made.foldTimes(strong, 8, 9);
        Made.foldTimes(strong, 7, 7);
        due("pull(1) at 9", strong.pull(1), 1);
        due("pull(2): 8 needed", strong.pull(2), 0);
        for (int wrong : new int[] {0, 10, -1, Due.LOW, Due.HIGH}) {
            DUE.throwsIt("pull(" + wrong + ")", Due.ARGUMENT, () -> maps.pull(wrong));
        }
    }

    // ---- promise 5
    private static void renew() {
        CreaseMaps maps = Made.torn();
        maps.fold(5);
        maps.move(1, 7);
        maps.ask(0, 1);
        int saved = maps.count(10);
        due("renew()", maps.renew(), 1);
        due("saved by renew", maps.count(10), saved + 1);
        due("none folded", maps.count(0), 0);
        due("none torn", maps.count(1), 0);
        due("no wear at 0", maps.creaseOf(0, 1), 0);
        due("no wear at 5", maps.creaseOf(5, 1), 0);
        due("no answers", maps.count(3), 0);
        due("towns stay", maps.town(1), 7);
        due("questions stay counted", maps.count(6), 1);
        due("the crease can be folded again", maps.fold(0), 1);
        due("renew() of a whole strip", maps.renew(), 0);
    }

    // ---- promise 6
    private static void ask() {
        CreaseMaps maps = Made.loaded("ab^^c|^d||^e^f|");
        due("ask(0, 2)", maps.ask(0, 2), 1);
        due("ask(2, 3)", maps.ask(2, 3), 0);
        due("ask(0, 1) on one panel", maps.ask(0, 1), 1);
        due("answers", maps.count(3), 3);
        due("questions", maps.count(6), 3);
        due("saved by ask", maps.count(10), 4);
        for (int wrong : new int[] {-1, 6, Due.LOW, Due.HIGH}) {
            DUE.throwsIt("ask(" + wrong + ", 0)", Due.INDEX, () -> maps.ask(wrong, 0));
            DUE.throwsIt("ask(0, " + wrong + ")", Due.INDEX, () -> maps.ask(0, wrong));
            DUE.throwsIt("ask of a wrong one twice", Due.INDEX, () -> maps.ask(wrong, wrong));
        }
        DUE.throwsIt("ask(3, 3)", Due.ARGUMENT, () -> maps.ask(3, 3));
    }

    private static void askRefused() {
        CreaseMaps maps = Made.loaded("ab|cd|ef|||||||");
        due("ask(0, 2)", maps.ask(0, 2), 0);
        due("ask(2, 0)", maps.ask(2, 0), -1);
        due("other towns of the same panels", maps.ask(3, 1), -1);
        due("refused", maps.count(9), 2);
        due("refused ask saves", maps.count(10), 4);
        due("questions", maps.count(6), 1);
        due("ask(0, 1) on one panel", maps.ask(0, 1), 1);
        due("ask(1, 0) on one panel", maps.ask(1, 0), -1);

        CreaseMaps many = new CreaseMaps();
        int asked = 0;
        for (int town = 0; town < 6; town++) {
            for (int other = town + 1; other < 6; other++) {
                int answer = many.ask(town, other);
                due("ask " + asked, answer, asked < 12 ? 0 : -1);
                asked++;
            }
        }
        due("answers at most", many.count(3), 12);
        due("refused as 12 are kept", many.count(9), 3);
        due("questions", many.count(6), 12);
        due("the twelfth is kept", many.between(2, 5, 3), 0);
        due("the thirteenth is not", many.between(3, 4, 3), -1);
        many.forget();
        due("questions go on", many.ask(4, 5), 0);
    }

    // ---- promise 7
    private static void guess() {
        CreaseMaps maps = Made.loaded("^^|^||^^|");
        int folding = 1 + 2 + 8 + 64 + 128;
        due("a right guess", maps.guess(folding), 10);
        due("one crease off", maps.guess(folding ^ 256), 8);
        due("three off", maps.guess(folding ^ 7), 6);
        due("all off", maps.guess(511 - folding), 0);
        due("guesses", maps.count(7), 4);
        due("right ones", maps.count(8), 1);
        due("saved by guess", maps.count(10), 5);
        due("nothing is refused", maps.count(9), 0);
        CreaseMaps flat = new CreaseMaps();
        due("guess(0)", flat.guess(0), 10);
        due("guess(511)", flat.guess(511), 0);
        due("a torn crease in it", Made.torn().guess(1), 8);
        flat.ask(0, 1);
        flat.guess(0);
        due("answers stay", flat.count(3), 1);
        for (int wrong : new int[] {-1, 512, Due.LOW, Due.HIGH}) {
            DUE.throwsIt("guess(" + wrong + ")", Due.ARGUMENT, () -> maps.guess(wrong));
        }
    }

    // ---- promise 8
    private static void forget() {
        CreaseMaps maps = new CreaseMaps();
        due("forget() of none", maps.forget(), 0);
        maps.ask(0, 1);
        maps.ask(2, 4);
        due("forget()", maps.forget(), 2);
        due("answers", maps.count(3), 0);
        due("questions", maps.count(6), 2);
        due("saved by forget", maps.count(10), 4);
        due("all fit again", maps.count(4), 512);
        maps.undo();
        due("forget is undone", maps.between(2, 4, 3), 0);
    }

    // ---- promise 9
    private static void append() {
        CreaseMaps maps = new CreaseMaps();
        due("append(33)", maps.append(33), 1);
        due("append(126)", maps.append(126), 2);
        for (int wrong : new int[] {32, 127, 0, -1, Due.LOW, Due.HIGH}) {
            DUE.throwsIt("append(" + wrong + ")", Due.ARGUMENT, () -> maps.append(wrong));
        }
        for (int length = 3; length <= 60; length++) {
            due("append to " + length, maps.append('|'), length);
        }
        DUE.throwsIt("append to a full buffer", Due.STATE, () -> maps.append('|'));
        DUE.throwsIt("append(32) to a full buffer", Due.ARGUMENT, () -> maps.append(32));
        due("nothing is saved", maps.count(10), 0);
        due("length", maps.clearBuffer(), 60);
        due("append to a cleared one", maps.append('a'), 1);
    }

    // ---- promise 10
    private static void clearBuffer() {
        CreaseMaps maps = new CreaseMaps();
        due("of an empty one", maps.clearBuffer(), 0);
        Made.type(maps, "ab|");
        due("of three", maps.clearBuffer(), 3);
        due("again", maps.clearBuffer(), 0);
        due("nothing is saved", maps.count(10), 0);
        Made.type(maps, "|||||||||");
        due("what was there is gone", maps.firstError(), 9);
        due("it loads", maps.load(), 0);
    }

    // ---- promise 11
    private static void firstError() {
        String[] texts = {"", "|", "g", "A", "!", "~", "a", "aa", "ab", "fedcba", "a|a", "a^b^a", "|||||||||",
            "||||||||||", "|||||||||^", "|||||||||abcdef", "abcdefg", "|||||||||a|", "^|x^|", "ab^^c|^d||^e^f|", "||||a||||^b",
            "a|b|c|d|e|f|f", "`", "{", "]"};
        int[] errors = {0, 1, 0, 0, 0, 0, 1, 1, 2, 6, 2, 4, 9, 9, 9, 15, 6, 10, 2, 15, 11, 12, 0, 0, 0};
        for (int i = 0; i < texts.length; i++) {
            CreaseMaps maps = new CreaseMaps();
            Made.type(maps, texts[i]);
            due("firstError() of " + texts[i], maps.firstError(), errors[i]);
            due("the buffer stays", maps.clearBuffer(), texts[i].length());
        }
    }

    // ---- promise 12
    private static void load() {
        CreaseMaps maps = Made.torn();
        maps.ask(0, 1);
        maps.fold(7);
        Made.type(maps, "b|a^||^e|^||cf");
        int saved = maps.count(10);
        due("load()", maps.load(), 3);
        due("saved by load", maps.count(10), saved + 1);
        int[] towns = {1, 0, 9, 0, 5, 9};
        for (int town = 0; town < 6; town++) {
            due("town(" + town + ")", maps.town(town), towns[town]);
        }
        for (int crease = 0; crease < 9; crease++) {
            due("folded " + crease, maps.creaseOf(crease, 0), crease == 1 || crease == 4 || crease == 6 ? 1 : 0);
            due("wear " + crease, maps.creaseOf(crease, 1), 0);
            due("torn " + crease, maps.creaseOf(crease, 2), 0);
        }
        due("no answers", maps.count(3), 0);
        due("the buffer is cleared", maps.clearBuffer(), 0);
        maps.undo();
        due("undone: torn", maps.count(1), 1);
        due("undone: the buffer stays empty", maps.clearBuffer(), 0);
        String[] wrong = {"", "||||||||", "||||||||||", "a|||a||||||", "|||||||||g", "x", "^^^^^^^^"};
        for (String text : wrong) {
            CreaseMaps none = new CreaseMaps();
            Made.type(none, text);
            DUE.throwsIt("load() of " + text, Due.ARGUMENT, none::load);
            due("nothing is saved", none.count(10), 0);
            due("the buffer stays", none.clearBuffer(), text.length());
        }
    }

    // ---- promise 13
    private static void keep() {
        CreaseMaps maps = new CreaseMaps();
        due("keep(0)", maps.keep(0), 0);
        maps.ask(0, 1);
        maps.ask(0, 2);
        due("keep(1)", maps.keep(1), 2);
        due("keep saves no state", maps.count(10), 2);
        maps.fold(0);
        due("keep(0) in place of the one before", maps.keep(0), 0);
        maps.fold(0);
        maps.goBack(0);
        due("the newer one", maps.creaseOf(0, 0), 1);
        maps.undo();
        maps.undo();
        maps.undo();
        due("undo leaves the slots", maps.goBack(1), 2);
        for (int wrong : new int[] {-1, 2, Due.LOW, Due.HIGH}) {
            DUE.throwsIt("keep(" + wrong + ")", Due.ARGUMENT, () -> maps.keep(wrong));
        }
    }

    // ---- promise 14
    private static void goBack() {
        CreaseMaps maps = Made.torn();
        maps.move(5, 8);
        maps.ask(0, 1);
        maps.fold(0);
        maps.guess(0);
        maps.keep(1);
        Made.type(maps, "ab");
        maps.renew();
        maps.move(5, 2);
        maps.guess(0);
        maps.guess(1);
        due("goBack(1)", maps.goBack(1), 1);
        due("torn", maps.creaseOf(0, 2), 1);
        due("wear", maps.creaseOf(0, 1), 1);
        due("town", maps.town(5), 8);
        due("answer", maps.between(0, 1, 3), 0);
        int[] counts = {1, 1, 1, 1};
        for (int what = 0; what < 4; what++) {
            due("count(" + (what + 6) + ") is the snapshot's", maps.count(what + 6), counts[what]);
        }
        due("the buffer stays", maps.clearBuffer(), 2);
        due("saved states are at most 6", maps.count(10), 6);
        maps.fold(1);
        due("the snapshot stays", maps.goBack(1), 1);
        due("and is as it was", maps.creaseOf(1, 0), 0);
        maps.undo();
        due("goBack is undone", maps.creaseOf(1, 0), 1);
        DUE.throwsIt("goBack(0) of an empty slot", Due.STATE, () -> maps.goBack(0));
        for (int wrong : new int[] {-1, 2, Due.LOW, Due.HIGH}) {
            DUE.throwsIt("goBack(" + wrong + ")", Due.ARGUMENT, () -> maps.goBack(wrong));
        }
    }

    // ---- promise 15
    private static void undo() {
        CreaseMaps maps = new CreaseMaps();
        for (int crease = 0; crease < 8; crease++) {
            maps.fold(crease);
        }
        due("saved", maps.count(10), 6);
        for (int left = 5; left >= 0; left--) {
            due("undo()", maps.undo(), left);
            due("folded then", maps.count(0), left + 2);
            due("wear of the last", maps.creaseOf(left + 2, 1), 0);
        }
        DUE.throwsIt("undo() of the two that were dropped", Due.STATE, maps::undo);
        due("it stays", maps.count(0), 2);
        maps.fold(8);
        due("undo() goes on", maps.undo(), 0);
        maps.ask(0, 2);
        maps.keep(0);
        Made.type(maps, "a");
        maps.undo();
        due("questions are undone", maps.count(6), 0);
        due("answers are undone", maps.count(3), 0);
        due("the buffer is not", maps.clearBuffer(), 1);
        due("the slot is not", maps.goBack(0), 1);

        CreaseMaps asked = new CreaseMaps();
        asked.fold(2);
        asked.ask(2, 3);
        asked.ask(1, 5);
        asked.keep(0);
        asked.forget();
        asked.ask(0, 1);
        asked.ask(1, 2);
        asked.goBack(0);
        due("the answer of the slot", asked.between(2, 3, 3), 1);
        due("the other one", asked.between(1, 5, 3), 0);
        due("not the later one", asked.between(0, 1, 3), -1);
        asked.undo();
        due("the answer that is undone is gone", asked.between(2, 3, 3), -1);
        due("the later one is back", asked.between(1, 2, 3), 0);
        asked.undo();
        asked.undo();
        asked.undo();
        due("the first ones are back", asked.between(2, 3, 3), 1);
        due("and no others", asked.between(1, 2, 3), -1);
    }

    /** Each undoable call in turn: undo after it brings back the digest from before, but for what undo leaves. */
    private static void everyUndoableCallSaves() {
        for (int call = 0; call < 9; call++) {
            CreaseMaps maps = Made.torn();
            maps.ask(0, 1);
            maps.keep(0);
            maps.guess(0);
            maps.fold(3);
            maps.ask(1, 2);
            Made.type(maps, "|||^^||||");
            if (call == 8) {
                maps.load();
                maps.undo();
            }
            long before = maps.digest();
            int saved = maps.count(10);
            switch (call) {
                case 0: maps.fold(2); break;
                case 1: maps.fold(0); break;
                case 2: maps.move(0, 5); break;
                case 3: maps.pull(9); break;
                case 4: maps.renew(); break;
                case 5: maps.ask(4, 5); break;
                case 6: maps.guess(8); break;
                case 7: maps.goBack(0); break;
                default: maps.forget(); break;
            }
            due("saved after call " + call, maps.count(10), Math.min(6, saved + 1));
            DUE.holds("the digest changes by call " + call, maps.digest() != before);
            maps.undo();
            if (saved < 6) {
                due("digest after undo of call " + call, maps.digest(), before);
            }
        }
    }

    // ---- promise 16
    private static void panelOf() {
        CreaseMaps maps = Made.loaded("ab^^c|^d||^e^f|");
        int[][] rows = {
            {100, 3, 4}, {100, 0, 4}, {100, 4, 4}, {101, 0, 2}, {101, 8, 2},
            {100, 0, 4}, {99, 0, 3}, {99, 16, 3}, {99, 32, 3}, {98, 0, 1}};
        for (int panel = 0; panel < 10; panel++) {
            for (int what = 0; what < 3; what++) {
                due("panelOf(" + panel + ", " + what + ")", maps.panelOf(panel, what), rows[panel][what]);
            }
        }
        CreaseMaps left = Made.loaded("^||||||||");
        due("to the left", left.panelOf(9, 0), 92);
        CreaseMaps one = Made.loaded("^^^^^^^^^");
        due("all at one place", one.panelOf(5, 2), 10);
        due("all towns on one panel", one.panelOf(0, 1), 63);
        for (int wrong : new int[] {-1, 10, Due.LOW, Due.HIGH}) {
            DUE.throwsIt("panelOf(" + wrong + ", 0)", Due.INDEX, () -> maps.panelOf(wrong, 0));
            DUE.throwsIt("panelOf(" + wrong + ", 3)", Due.INDEX, () -> maps.panelOf(wrong, 3));
        }
        for (int wrong : new int[] {-1, 3, Due.LOW, Due.HIGH}) {
            DUE.throwsIt("panelOf(0, " + wrong + ")", Due.ARGUMENT, () -> maps.panelOf(0, wrong));
        }
    }

    // ---- promise 17
    private static void creaseOf() {
        CreaseMaps maps = Made.torn();
        maps.fold(1);
        maps.fold(2);
        maps.fold(2);
        int[][] rows = {{0, 1, 1, 0}, {1, 1, 0, -1}, {0, 2, 0, -1}, {0, 0, 0, -1}};
        for (int crease = 0; crease < rows.length; crease++) {
            for (int what = 0; what < 4; what++) {
                due("creaseOf(" + crease + ", " + what + ")", maps.creaseOf(crease, what), rows[crease][what]);
            }
        }
        maps.ask(1, 2);
        due("sure to be folded", maps.creaseOf(1, 3), 1);
        maps.ask(2, 3);
        due("sure to be flat", maps.creaseOf(2, 3), 0);
        due("not sure", maps.creaseOf(8, 3), -1);
        maps.undo();
        due("not sure any more", maps.creaseOf(2, 3), -1);
        for (int wrong : new int[] {-1, 9, Due.LOW, Due.HIGH}) {
            DUE.throwsIt("creaseOf(" + wrong + ", 0)", Due.INDEX, () -> maps.creaseOf(wrong, 0));
            DUE.throwsIt("creaseOf(" + wrong + ", 4)", Due.INDEX, () -> maps.creaseOf(wrong, 4));
        }
        for (int wrong : new int[] {-1, 4, Due.LOW, Due.HIGH}) {
            DUE.throwsIt("creaseOf(0, " + wrong + ")", Due.ARGUMENT, () -> maps.creaseOf(0, wrong));
        }
    }

    // ---- promise 18
    private static void between() {
        CreaseMaps maps = Made.loaded("ab^^c|^d||^e^f|");
        int[][] calls = {{2, 5}, {5, 2}, {0, 2}, {3, 3}, {0, 1}, {3, 4}};
        int[][] rows = {{6, 1, 0}, {6, 1, 0}, {2, 0, 1}, {0, 0, 1}, {0, 0, 1}, {3, 2, 0}};
        for (int i = 0; i < calls.length; i++) {
            for (int what = 0; what < 3; what++) {
                due("between " + i + ", " + what, maps.between(calls[i][0], calls[i][1], what), rows[i][what]);
            }
            due("no answer " + i, maps.between(calls[i][0], calls[i][1], 3), -1);
        }
        maps.ask(2, 5);
        maps.ask(2, 0);
        due("answer 0", maps.between(2, 5, 3), 0);
        due("answer 0 the other way", maps.between(5, 2, 3), 0);
        due("answer 1", maps.between(0, 2, 3), 1);
        due("of the panels, so of b too", maps.between(1, 2, 3), 1);
        maps.ask(0, 1);
        due("of one panel, so of a and a too", maps.between(0, 0, 3), 1);
        for (int wrong : new int[] {-1, 6, Due.LOW, Due.HIGH}) {
            DUE.throwsIt("between(" + wrong + ", 0, 0)", Due.INDEX, () -> maps.between(wrong, 0, 0));
            DUE.throwsIt("between(0, " + wrong + ", 4)", Due.INDEX, () -> maps.between(0, wrong, 4));
        }
        for (int wrong : new int[] {-1, 4, Due.LOW, Due.HIGH}) {
            DUE.throwsIt("between(0, 0, " + wrong + ")", Due.ARGUMENT, () -> maps.between(0, 0, wrong));
        }
    }

    // ---- promise 19
    private static void town() {
        CreaseMaps maps = new CreaseMaps();
        maps.move(5, 9);
        due("town(5)", maps.town(5), 9);
        due("town(0)", maps.town(0), 0);
        for (int wrong : new int[] {-1, 6, Due.LOW, Due.HIGH}) {
            DUE.throwsIt("town(" + wrong + ")", Due.INDEX, () -> maps.town(wrong));
        }
    }

    // ---- promise 20
    private static void count() {
        CreaseMaps maps = Made.torn();
        maps.fold(4);
        maps.fold(0);
        maps.ask(3, 5);
        maps.ask(5, 3);
        maps.guess(16);
        maps.guess(17);
        maps.guess(16);
        int[] counts = {1, 1, 5, 1, 192, 192, 1, 3, 2, 2, 6};
        for (int what = 0; what < counts.length; what++) {
            due("count(" + what + ")", maps.count(what), counts[what]);
        }
        due("width of all at one place", Made.loaded("^^^^^^^^^").count(2), 1);
        due("width to the left", Made.loaded("^||||||||").count(2), 9);
        due("width to both sides", Made.loaded("||^||||||").count(2), 7);
        for (int wrong : new int[] {-1, 11, Due.LOW, Due.HIGH}) {
            DUE.throwsIt("count(" + wrong + ")", Due.ARGUMENT, () -> maps.count(wrong));
        }
    }

    private static void countOfFoldings() {
        CreaseMaps maps = new CreaseMaps();
        int[] fits = {256, 128, 64, 32, 16};
        for (int town = 0; town < 5; town++) {
            maps.ask(town, town + 1);
            due("count(4)", maps.count(4), fits[town]);
            due("count(5)", maps.count(5), fits[town]);
        }
        // With the creases 0 to 4 flat every further answer is known.
        maps.ask(0, 5);
        due("count(4) of one known", maps.count(4), 16);
        CreaseMaps far = Made.loaded("a^|^|^|^|^f");
        due("far ones touch not", far.ask(0, 5), far.between(0, 5, 2));
        due("count(4) and count(5)", far.count(5), far.count(4));
        CreaseMaps allTorn = Made.allTorn();
        due("all torn", allTorn.count(1), 9);
        due("one folding is left", allTorn.count(4), 1);
        due("one walk is left", allTorn.count(5), 1);
    }

    // ---- promise 21
    private static void ifTouching() {
        CreaseMaps maps = Made.loaded("ab^^c|^d||^e^f|");
        due("on one panel", maps.ifTouching(0, 1), 512);
        due("two apart", maps.ifTouching(0, 2), 128);
        due("six apart", maps.ifTouching(2, 5), 80);
        due("the other way", maps.ifTouching(5, 2), 80);
        maps.ask(0, 2);
        due("known", maps.ifTouching(2, 0), 128);
        maps.ask(2, 5);
        due("known not to", maps.ifTouching(2, 5), 0);
        due("a torn crease", Made.torn().ifTouching(0, 1), 0);
        for (int wrong : new int[] {-1, 6, Due.LOW, Due.HIGH}) {
            DUE.throwsIt("ifTouching(" + wrong + ", 0)", Due.INDEX, () -> maps.ifTouching(wrong, 0));
            DUE.throwsIt("ifTouching(0, " + wrong + ")", Due.INDEX, () -> maps.ifTouching(0, wrong));
            DUE.throwsIt("ifTouching of a wrong one twice", Due.INDEX, () -> maps.ifTouching(wrong, wrong));
        }
        DUE.throwsIt("ifTouching(5, 5)", Due.ARGUMENT, () -> maps.ifTouching(5, 5));
    }

    // ---- promise 22
    private static void bestQuestion() {
        CreaseMaps maps = new CreaseMaps();
        due("halves, the least of them", maps.bestQuestion(), 1);
        maps.ask(0, 1);
        due("kept ones are not asked", maps.bestQuestion(), 12);
        maps.ask(1, 2);
        maps.ask(2, 3);
        maps.ask(3, 4);
        due("the last half", maps.bestQuestion(), 45);
        maps.ask(4, 5);
        due("all are known, the least that is not kept", maps.bestQuestion(), 2);
        due("towns on one panel", Made.loaded("|||||||||").bestQuestion(), -1);
        CreaseMaps two = Made.loaded("abcde|f||||||||");
        due("two panels", two.bestQuestion(), 5);
        two.ask(2, 5);
        due("two panels, kept", two.bestQuestion(), -1);
        due("lesser town first", Made.loaded("b|acdef||||||||").bestQuestion(), 1);
        due("even ones apart", Made.loaded("af|||b|c||d||e|").bestQuestion(), 12);
        CreaseMaps full = new CreaseMaps();
        for (int other = 1; other < 6; other++) {
            for (int town = 0; town < other; town++) {
                full.ask(town, other);
            }
        }
        due("also when no more can be asked", full.bestQuestion(), 45);
    }

    // ---- promise 23
    private static void folding() {
        CreaseMaps maps = Made.loaded("ab^^c|^d||^e^f|");
        due("folding(0)", maps.folding(0), 0);
        due("folding(511)", maps.folding(511), 511);
        due("folding(512)", maps.folding(512), -1);
        maps.ask(0, 2);
        due("folding(0)", maps.folding(0), 3);
        due("folding(1)", maps.folding(1), 7);
        due("folding(100)", maps.folding(100), 403);
        due("folding(127)", maps.folding(127), 511);
        due("folding(128)", maps.folding(128), -1);
        due("folding(the greatest)", maps.folding(Due.HIGH), -1);
        due("without the torn", Made.torn().folding(1), 2);
        DUE.throwsIt("folding(-1)", Due.ARGUMENT, () -> maps.folding(-1));
        DUE.throwsIt("folding(the least)", Due.ARGUMENT, () -> maps.folding(Due.LOW));
    }

    // ---- promise 24
    private static void weakest() {
        CreaseMaps maps = new CreaseMaps();
        due("none", maps.weakest(), -1);
        Made.foldTimes(maps, 0, 4);
        due("a flat one", maps.weakest(), -1);
        Made.foldTimes(maps, 8, 1);
        due("one", maps.weakest(), 8);
        Made.foldTimes(maps, 3, 3);
        Made.foldTimes(maps, 6, 3);
        Made.foldTimes(maps, 1, 1);
        due("the lowest of the greatest", maps.weakest(), 3);
        Made.foldTimes(maps, 6, 2);
        due("the greatest", maps.weakest(), 6);
        maps.pull(7);
        due("the torn ones are flat", maps.weakest(), 1);
        due("without wear", Made.loaded("||^||^|||").weakest(), 2);
    }

    // ---- promise 25
    private static void sureShare() {
        CreaseMaps maps = new CreaseMaps();
        DUE.same("of 512", maps.sureShare(), 0.001953125);
        maps.ask(0, 1);
        DUE.same("of 256", maps.sureShare(), 0.00390625);
        CreaseMaps six = Made.loaded("a||||||f|||");
        six.ask(0, 5);
        DUE.same("of those that do not touch", six.sureShare(), 1.0 / (512 - 80));
        maps.undo();
        DUE.same("of 512 again", maps.sureShare(), 0.001953125);
        DUE.same("of one alone", Made.allTorn().sureShare(), 1.0);
    }

    // ---- promise 26
    private static void digest() {
        CreaseMaps maps = new CreaseMaps();
        NaiveMaps model = new NaiveMaps();
        due("new: digest()", maps.digest(), model.digest());
        due("new: digest() as a number", maps.digest(), NEW_DIGEST);
        String text = "a|^bc|!~";
        for (int i = 0; i < text.length(); i++) {
            maps.append(text.charAt(i));
            model.append(text.charAt(i));
            due("digest() with a buffer", maps.digest(), model.digest());
        }
        for (int slot = 1; slot >= 0; slot--) {
            maps.keep(slot);
            model.keep(slot);
            due("digest() with a slot", maps.digest(), model.digest());
        }
        for (int town = 0; town < 5; town++) {
            maps.ask(town, 5);
            model.ask(town, 5);
            due("digest() with answers", maps.digest(), model.digest());
        }
        for (int crease = 0; crease < 9; crease++) {
            maps.fold(crease);
            model.fold(crease);
            maps.ask(0, 3);
            model.ask(0, 3);
            due("digest() with creases", maps.digest(), model.digest());
        }
    }

    // ---- "looks; nothing is changed", and "what would be; nothing is changed"
    private static void looksChangeNothing() {
        CreaseMaps maps = Made.loaded("ab^^c|^d||^e^f|");
        maps.ask(0, 2);
        maps.append('x');
        long before = maps.digest();
        due("firstError()", maps.firstError(), 0);
        for (int i = 0; i < 3; i++) {
            maps.panelOf(i, i);
            maps.creaseOf(i, i + 1);
            maps.between(i, i + 1, i);
            maps.town(i);
            maps.count(i + 3);
            maps.ifTouching(i, 5);
            maps.bestQuestion();
            maps.folding(i);
            maps.weakest();
            maps.sureShare();
        }
        due("digest()", maps.digest(), before);
        due("digest() again", maps.digest(), before);
    }

    private static void throwingChangesNothing() {
        CreaseMaps maps = Made.torn();
        maps.ask(0, 1);
        Made.type(maps, "ab||g");
        long before = maps.digest();
        DUE.throwsIt("fold(9)", Due.INDEX, () -> maps.fold(9));
        DUE.throwsIt("move(0, 10)", Due.ARGUMENT, () -> maps.move(0, 10));
        DUE.throwsIt("pull(0)", Due.ARGUMENT, () -> maps.pull(0));
        DUE.throwsIt("ask(0, 0)", Due.ARGUMENT, () -> maps.ask(0, 0));
        DUE.throwsIt("guess(512)", Due.ARGUMENT, () -> maps.guess(512));
        DUE.throwsIt("append(32)", Due.ARGUMENT, () -> maps.append(32));
        DUE.throwsIt("load()", Due.ARGUMENT, maps::load);
        DUE.throwsIt("keep(2)", Due.ARGUMENT, () -> maps.keep(2));
        DUE.throwsIt("goBack(2)", Due.ARGUMENT, () -> maps.goBack(2));
        DUE.throwsIt("goBack(0)", Due.STATE, () -> maps.goBack(0));
        due("digest()", maps.digest(), before);
    }
}
