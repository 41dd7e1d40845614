import java.util.ArrayList;
import java.util.List;

/** The edges that the document names of what would be, the promises 21 to 26; each beside its words. */
final class WouldBeEdgeTests {

    /** How many of the 512 foldings have two panels at one place that are so far apart along the strip: 0 to 9. */
    private static final int[] TOUCHING = {512, 256, 128, 128, 96, 96, 80, 80, 70, 70};

    private static final Due DUE = new Due("WouldBeEdgeTests");

    public static void main(String[] args) {
        ifTouchingOfEachDistance();
        ifTouchingBesidesAnswers();
        ifTouchingOfTornStrips();
        noBestQuestion();
        bestQuestionOfAFewPanels();
        bestQuestionIsTheLeastOfSeveral();
        bestQuestionMindsBothAnswers();
        bestQuestionAtTwelveAnswers();
        foldingsByRank();
        foldingsOfOneAlone();
        noWeakest();
        weakestOfSeveral();
        weakestAtBothEnds();
        shares();
        digestOfEachState();
        digestOfTheBuffer();
        digestOfTheSlots();
        looksChangeNothing();
        DUE.end();
    }

    private static void due(String what, long got, long want) {
        DUE.sameLong(what, got, want);
    }

    private static void ifTouchingOfEachDistance() {
        CreaseMaps maps = new CreaseMaps();
        maps.move(0, 9);
        for (int panel = 0; panel < 10; panel++) {
            maps.move(5, panel);
            due("9 and " + panel, maps.ifTouching(0, 5), TOUCHING[9 - panel]);
            due(panel + " and 9", maps.ifTouching(5, 0), TOUCHING[9 - panel]);
        }
        // How the strip lies does not matter.
        CreaseMaps folded = Made.loaded("a^^^^^^^^^f");
        due("the ends of a folded one", folded.ifTouching(0, 5), 70);
    }

    /** "Besides all answers." */
    private static void ifTouchingBesidesAnswers() {
        CreaseMaps maps = Made.loaded("a^b|c|d|e|f||||");
        maps.ask(0, 1);
        due("known to touch", maps.ifTouching(1, 0), 256);
        maps.ask(1, 2);
        due("known not to touch", maps.ifTouching(1, 2), 0);
        due("all that fit", maps.count(4), 128);
        due("of a folded and a flat crease: never", maps.ifTouching(0, 2), 0);
        due("half of them", maps.ifTouching(2, 3), 64);
        due("it is not kept", maps.between(2, 3, 3), -1);
        due("nor counted", maps.count(6), 2);
        CreaseMaps same = Made.loaded("|||||||||");
        due("on one panel", same.ifTouching(0, 5), 512);
        same.ask(0, 5);
        due("on one panel, kept", same.ifTouching(0, 5), 512);
        // The creases 0 to 2 are flat, and 3 is not folded if 4 is flat: 48 fit, and in 32 of them 4 is folded.
        due("12 are kept", Made.asked(12).ifTouching(4, 5), 32);
    }

    private static void ifTouchingOfTornStrips() {
        CreaseMaps maps = Made.allTorn();
        for (int other = 1; other < 6; other++) {
            due("all torn: 0 and " + other, maps.ifTouching(0, other), 0);
        }
        maps.move(0, 5);
        due("all torn, on one panel", maps.ifTouching(0, 5), 1);
        due("one torn", Made.torn().ifTouching(1, 2), 128);
    }

    /** "NONE if there are no others." */
    private static void noBestQuestion() {
        due("all on one panel", Made.loaded("|||||||||").bestQuestion(), -1);
        due("all on the last panel", Made.loaded("|||||||||abcdef").bestQuestion(), -1);
        CreaseMaps two = Made.loaded("abc|||||||||def");
        two.ask(5, 1);
        due("on two panels, kept", two.bestQuestion(), -1);
        two.forget();
        due("on two panels, forgotten", two.bestQuestion(), 3);
        CreaseMaps five = Made.loaded("af|b|c|d|e|||||");
        int[][] pairs = {{0, 1}, {0, 2}, {0, 3}, {0, 4}, {1, 2}, {1, 3}, {1, 4}, {2, 3}, {2, 4}, {3, 4}};
        for (int[] pair : pairs) {
            DUE.holds("one is left before " + pair[0] + " and " + pair[1], five.bestQuestion() >= 0);
            five.ask(pair[0], pair[1]);
        }
        due("on five panels, all kept, but the one of a and f", five.bestQuestion(), -1);
    }

    /** "Towns on one panel, and those for whose panels an answer is kept, are not asked." */
    private static void bestQuestionOfAFewPanels() {
        due("a is alone", Made.loaded("a|bcdef||||||||").bestQuestion(), 1);
        due("f is alone", Made.loaded("abcde|f||||||||").bestQuestion(), 5);
        CreaseMaps three = Made.loaded("abcd|e|f|||||||");
        three.ask(0, 4);
        due("the panels 0 and 1 are kept", three.bestQuestion(), 45);
        three.ask(4, 5);
        due("and the panels 1 and 2", three.bestQuestion(), 5);
        three.ask(3, 5);
        due("and the panels 0 and 2", three.bestQuestion(), -1);
    }

    /** "Of several the least"; "10 times the lesser town and the greater one, together". */
    private static void bestQuestionIsTheLeastOfSeveral() {
        due("new: 01 before 12, 23, 34 and 45", new CreaseMaps().bestQuestion(), 1);
        due("05 before 12", Made.loaded("a|f|||b|c||d||e").bestQuestion(), 5);
        due("the lesser town first", Made.loaded("b|a||||c|d|e|f|").bestQuestion(), 1);
        due("one folding left: 01", Made.allTorn().bestQuestion(), 1);
        CreaseMaps maps = new CreaseMaps();
        int[] best = {1, 12, 23, 34, 45, 2};
        for (int i = 0; i < best.length; i++) {
            due("after " + i + " answers", maps.bestQuestion(), best[i]);
            maps.ask(best[i] / 10, best[i] % 10);
        }
    }

    /** "The greater one of both is the least": of those that touch, and of those that do not. */
    private static void bestQuestionMindsBothAnswers() {
        CreaseMaps maps = Made.loaded("a^b^c|d|e|f||||");
        maps.ask(0, 2);
        due("a and b touch surely now", maps.ifTouching(0, 1), 128);
        due("a and d touch in half", maps.ifTouching(0, 3), 64);
        due("a and d", maps.bestQuestion(), 3);
        // Farther ones touch less often: 1 of 4 is better than 3 of 16.
        due("two apart, and not four apart", Made.loaded("a||||b||c||def|").bestQuestion(), 12);
    }

    /** The document leaves out just towns on one panel, and panels with an answer. */
    private static void bestQuestionAtTwelveAnswers() {
        due("12 are kept", Made.asked(12).bestQuestion(), 34);
    }

    /** "From 0, by rising masks"; "NONE if not so many fit". */
    private static void foldingsByRank() {
        CreaseMaps maps = new CreaseMaps();
        due("the first", maps.folding(0), 0);
        due("the last", maps.folding(511), 511);
        due("behind the last", maps.folding(512), -1);
        due("far behind it", maps.folding(Due.HIGH), -1);
        DUE.throwsIt("before the first", Due.ARGUMENT, () -> maps.folding(-1));
        maps.ask(0, 5);
        int fits = maps.count(4);
        due("fits", fits, 416);
        int before = -1;
        for (int rank = 0; rank < 416; rank++) {
            int folding = maps.folding(rank);
            DUE.holds("rising at " + rank, folding > before);
            before = folding;
        }
        // With all folded they would touch, but not with the crease 0 flat.
        due("the last that fits", maps.folding(415), 510);
        due("behind the last that fits", maps.folding(416), -1);
    }

    private static void foldingsOfOneAlone() {
        CreaseMaps maps = Made.allTorn();
        due("the only one", maps.folding(0), 0);
        due("behind it", maps.folding(1), -1);
        due("far behind it", maps.folding(Due.HIGH), -1);
        DUE.throwsIt("before it", Due.ARGUMENT, () -> maps.folding(-1));
    }

    /** "NONE if none is folded." */
    private static void noWeakest() {
        due("new", new CreaseMaps().weakest(), -1);
        CreaseMaps flat = new CreaseMaps();
        Made.foldTimes(flat, 0, 8);
        due("worn, but flat", flat.weakest(), -1);
        due("all torn", Made.allTorn().weakest(), -1);
    }

    /** "The folded crease with the greatest wear, of several the lowest." */
    private static void weakestOfSeveral() {
        due("all without wear", Made.loaded("^^^^^^^^^").weakest(), 0);
        due("two without wear", Made.loaded("|||||||^^").weakest(), 7);
        CreaseMaps maps = new CreaseMaps();
        Made.foldTimes(maps, 6, 3);
        Made.foldTimes(maps, 2, 3);
        Made.foldTimes(maps, 0, 1);
        Made.foldTimes(maps, 8, 1);
        Made.foldTimes(maps, 4, 6);
        due("two with a wear of 3", maps.weakest(), 2);
        Made.foldTimes(maps, 6, 2);
        due("one with a wear of 5", maps.weakest(), 6);
        maps.pull(5);
        due("that one is torn", maps.weakest(), 2);
        maps.pull(9);
        due("all are torn", maps.weakest(), -1);
        due("but the worn flat one", maps.creaseOf(4, 2), 0);
    }

    private static void weakestAtBothEnds() {
        for (int crease = 0; crease < 9; crease++) {
            CreaseMaps maps = new CreaseMaps();
            maps.fold(crease);
            due("the only folded one", maps.weakest(), crease);
            CreaseMaps worn = Made.loaded("^^^^^^^^^");
            Made.foldTimes(worn, crease, 2);
            due("the only worn one", worn.weakest(), crease);
        }
    }

    /** "Returns 1 as a double, divided by count(4)." */
    private static void shares() {
        DUE.same("new", new CreaseMaps().sureShare(), 1.0 / 512);
        DUE.same("all torn", Made.allTorn().sureShare(), 1.0);
        int[] fits = {0, 256, 384, 384, 416, 416, 432, 432, 442, 442};
        for (int panel = 1; panel < 10; panel++) {
            CreaseMaps maps = new CreaseMaps();
            maps.move(5, panel);
            maps.ask(0, 5);
            DUE.same(panel + " apart, and not touching", maps.sureShare(), 1.0 / fits[panel]);
            CreaseMaps touching = Made.loaded("^^^^^^^^^");
            touching.move(5, panel);
            touching.ask(0, 5);
            DUE.same(panel + " apart, and touching", touching.sureShare(), 1.0 / TOUCHING[panel]);
        }
    }

    /** The hash of promise 26, of what the other calls of the same object answer. */
    private static long hashOf(CreaseMaps maps, int snapshot0, int snapshot1, String buffer) {
        List<Long> values = new ArrayList<>();
        for (int what = 0; what <= 10; what++) {
            values.add((long) maps.count(what));
        }
        for (int panel = 0; panel < 10; panel++) {
            for (int what = 0; what <= 2; what++) {
                values.add((long) maps.panelOf(panel, what));
            }
        }
        for (int crease = 0; crease < 9; crease++) {
            for (int what = 0; what <= 3; what++) {
                values.add((long) maps.creaseOf(crease, what));
            }
        }
        for (int town = 0; town < 6; town++) {
            values.add((long) maps.town(town));
            for (int greater = town + 1; greater < 6; greater++) {
                for (int what = 0; what <= 3; what++) {
                    values.add((long) maps.between(town, greater, what));
                }
            }
        }
        values.add((long) maps.bestQuestion());
        for (int rank = 0; rank <= 3; rank++) {
            values.add((long) maps.folding(rank));
        }
        values.add((long) maps.weakest());
        values.add(Double.doubleToLongBits(maps.sureShare()));
        values.add((long) snapshot0);
        values.add((long) snapshot1);
        values.add((long) buffer.length());
        for (int i = 0; i < buffer.length(); i++) {
            values.add((long) buffer.charAt(i));
        }
        long hash = 3697L;
        for (long value : values) {
            hash = 31 * hash + value;
        }
        return hash;
    }

    private static void digestOf(String state, CreaseMaps maps, int snapshot0, int snapshot1, String buffer) {
        due("digest of " + state, maps.digest(), hashOf(maps, snapshot0, snapshot1, buffer));
    }

    private static void digestOfEachState() {
        digestOf("a new object", new CreaseMaps(), 0, 0, "");
        digestOf("a rich one", Made.rich(), 1, 0, "ab||g");
        digestOf("a full one", Made.full(), 1, 1, "|^".repeat(30));
        digestOf("one with six saved states", Made.sixSaved(), 1, 0, "");
        // Fewer than four foldings fit, and no crease is the weakest.
        digestOf("one with all torn", Made.allTorn(), 0, 0, "");
        digestOf("one with 12 answers", Made.asked(12), 0, 0, "");
        // There is no best question.
        digestOf("one with all towns on a panel", Made.loaded("^^|||||||"), 0, 0, "");
        digestOf("one with all towns", Made.loaded(Made.LONGEST_MAP), 0, 0, "");
    }

    private static void digestOfTheBuffer() {
        CreaseMaps maps = new CreaseMaps();
        long empty = maps.digest();
        maps.append(33);
        digestOf("one sign", maps, 0, 0, "!");
        maps.append(126);
        digestOf("two signs", maps, 0, 0, "!~");
        maps.clearBuffer();
        due("digest once it is cleared", maps.digest(), empty);
        digestOf("60 signs", Made.typed("~".repeat(60)), 0, 0, "~".repeat(60));
    }

    /** "For each slot 1 if it has a snapshot, otherwise 0." */
    private static void digestOfTheSlots() {
        CreaseMaps first = new CreaseMaps();
        first.keep(0);
        digestOf("the slot 0", first, 1, 0, "");
        first.keep(0);
        digestOf("the slot 0, kept again", first, 1, 0, "");
        CreaseMaps second = new CreaseMaps();
        second.keep(1);
        digestOf("the slot 1", second, 0, 1, "");
        second.keep(0);
        digestOf("both slots", second, 1, 1, "");
    }

    /** "Looks; nothing is changed", "what would be; nothing is changed": nor is it by firstError(). */
    private static void looksChangeNothing() {
        String untouched = Seen.whole(Made.rich());
        CreaseMaps looked = Made.rich();
        Seen.looks(looked);
        looked.ifTouching(0, 5);
        looked.firstError();
        looked.digest();
        DUE.sameText("a rich one after all looks", Seen.whole(looked), untouched);
        String full = Seen.whole(Made.full());
        CreaseMaps lookedFull = Made.full();
        Seen.looks(lookedFull);
        lookedFull.ifTouching(5, 0);
        lookedFull.firstError();
        lookedFull.digest();
        DUE.sameText("a full one after all looks", Seen.whole(lookedFull), full);
    }
}
