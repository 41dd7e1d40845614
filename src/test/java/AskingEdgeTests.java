import java.util.List;
import java.util.function.Consumer;

/** The edges that the document names of asking: "The game", and the promises 6 to 8; each beside its words. */
final class AskingEdgeTests {

    private record Step(String name, Consumer<CreaseMaps> call) {
    }

    private static final Due DUE = new Due("AskingEdgeTests");

    public static void main(String[] args) {
        answerOfTouchingAndOfOthers();
        twelveAnswersAtMost();
        refusedAsTwelveAreKept();
        refusedAsOneIsKeptForThePanels();
        answerOfOnePanel();
        answerOfOtherPanels();
        whatTakesAnswersAway();
        whatLeavesAnswers();
        askedAgainOnceTakenAway();
        foldingsOfATornStrip();
        foldingsThatFit();
        guessOfEachDistance();
        guessAtTheEnds();
        guessOfATornCrease();
        guessChangesCountsAlone();
        forgetOfNoneAndOfTwelve();
        DUE.end();
    }

    private static void due(String what, long got, long want) {
        DUE.sameLong(what, got, want);
    }

    /** "Returns 1 if they touch, otherwise 0." */
    private static void answerOfTouchingAndOfOthers() {
        CreaseMaps maps = Made.loaded("a|b^c|d|e|||||f");
        due("b and c touch", maps.ask(1, 2), 1);
        due("a and d touch", maps.ask(3, 0), 1);
        due("a and b lie one apart", maps.ask(0, 1), 0);
        due("a and e lie one apart", maps.ask(4, 0), 0);
        due("a and f lie far apart", maps.ask(0, 5), 0);
        due("all are kept", maps.count(3), 5);
        due("and counted", maps.count(6), 5);
    }

    /** "The answers are kept: at most 12." */
    private static void twelveAnswersAtMost() {
        CreaseMaps maps = Made.asked(11);
        due("11 are kept", maps.count(3), 11);
        due("the twelfth", maps.ask(2, 5), 0);
        due("12 are kept", maps.count(3), 12);
        due("the thirteenth", maps.ask(3, 4), -1);
        due("still 12", maps.count(3), 12);
        due("the first is kept", maps.between(0, 1, 3), 0);
        due("the twelfth is kept", maps.between(2, 5, 3), 0);
        due("the thirteenth is not", maps.between(3, 4, 3), -1);
        due("the twelfth is no longer refused", maps.count(9), 1);
    }

    /** "NONE if it is refused, as 12 answers are kept." */
    private static void refusedAsTwelveAreKept() {
        DUE.sameText("the thirteenth changes", Seen.changes(() -> Made.asked(12), m -> m.ask(4, 5)), "count(9) 0>1");
        DUE.sameText("one that is kept, at 12, changes",
                Seen.changes(() -> Made.asked(12), m -> m.ask(0, 1)), "count(9) 0>1");
        CreaseMaps maps = Made.asked(12);
        maps.ask(4, 5);
        maps.undo();
        due("a refused one is saved: refused so far", maps.count(9), 0);
        due("12 are kept", maps.count(3), 12);
    }

    /** "Or one is kept for their panels." */
    private static void refusedAsOneIsKeptForThePanels() {
        CreaseMaps maps = Made.loaded("ab|cd|||e|||f||");
        due("a and c", maps.ask(0, 2), 0);
        due("a and c again", maps.ask(0, 2), -1);
        due("c and a", maps.ask(2, 0), -1);
        due("b and d, of the same panels", maps.ask(1, 3), -1);
        due("d and a", maps.ask(3, 0), -1);
        due("kept", maps.count(3), 1);
        due("questions", maps.count(6), 1);
        due("refused", maps.count(9), 4);
        due("saved, refused ones too", maps.count(10), 6);
        due("e and f", maps.ask(4, 5), 0);
        DUE.sameText("one that is kept changes", Seen.changes(Made::rich, m -> m.ask(1, 0)),
                "count(9) 0>1, count(10) 5>6");
    }

    /** "The answer is kept for their panels, which may be the same one." */
    private static void answerOfOnePanel() {
        CreaseMaps maps = Made.loaded("|||||||||abc");
        due("a and b on the panel 9", maps.ask(0, 1), 1);
        due("a and c on it", maps.ask(0, 2), -1);
        due("c and b on it", maps.ask(2, 1), -1);
        due("kept for c and b, too", maps.between(2, 1, 3), 1);
        due("d and e on the panel 0", maps.ask(3, 4), 1);
        due("a and d", maps.ask(0, 3), 0);
        due("kept", maps.count(3), 3);
        due("all foldings fit what is of one panel", Made.loaded("|||||||||").ifTouching(0, 5), 512);
    }

    /** An answer of two panels is none of one of these and a third. */
    private static void answerOfOtherPanels() {
        CreaseMaps maps = new CreaseMaps();
        maps.ask(1, 3);
        due("0 and 1", maps.between(0, 1, 3), -1);
        due("0 and 3", maps.between(0, 3, 3), -1);
        due("1 and 4", maps.between(1, 4, 3), -1);
        due("3 and 4", maps.between(3, 4, 3), -1);
        due("1 and 1", maps.between(1, 1, 3), -1);
        due("3 and 3", maps.between(3, 3, 3), -1);
        due("1 and 3", maps.between(1, 3, 3), 0);
    }

    /** "All answers are taken away by ..." */
    private static void whatTakesAnswersAway() {
        List<Step> steps = List.of(
                new Step("fold", m -> m.fold(5)),
                new Step("fold that makes flat", m -> m.fold(3)),
                new Step("move", m -> m.move(2, 9)),
                new Step("move to the same panel", m -> m.move(2, 2)),
                new Step("pull that tears", m -> m.pull(9)),
                new Step("renew", CreaseMaps::renew),
                new Step("load", AskingEdgeTests::loadFirstMap),
                new Step("forget", CreaseMaps::forget));
        for (Step step : steps) {
            CreaseMaps maps = Made.rich();
            due("before " + step.name, maps.count(3), 2);
            step.call.accept(maps);
            due("after " + step.name, maps.count(3), 0);
            due("after " + step.name + ": of the panels 0 and 1", maps.between(0, 1, 3), -1);
        }
    }

    private static void loadFirstMap(CreaseMaps maps) {
        maps.clearBuffer();
        Made.type(maps, Made.FIRST_MAP);
        maps.load();
    }

    private static void whatLeavesAnswers() {
        List<Step> steps = List.of(
                new Step("refused fold", m -> m.fold(0)),
                new Step("pull that tears none", m -> m.pull(8)),
                new Step("refused ask", m -> m.ask(0, 1)),
                new Step("right guess", m -> m.guess(8)),
                new Step("wrong guess", m -> m.guess(0)),
                new Step("append", m -> m.append('a')),
                new Step("clearBuffer", CreaseMaps::clearBuffer),
                new Step("firstError", CreaseMaps::firstError),
                new Step("keep", m -> m.keep(1)),
                new Step("load that throws", m -> DUE.throwsIt("load()", Due.ARGUMENT, m::load)),
                new Step("move that throws", m -> DUE.throwsIt("move", Due.ARGUMENT, () -> m.move(0, 10))));
        for (Step step : steps) {
            CreaseMaps maps = Made.rich();
            step.call.accept(maps);
            due("after " + step.name, maps.count(3), 2);
            due("after " + step.name + ": of the panels 0 and 1", maps.between(0, 1, 3), 0);
            due("after " + step.name + ": of the panels 1 and 5", maps.between(1, 5, 3), 0);
        }
    }

    private static void askedAgainOnceTakenAway() {
        CreaseMaps maps = Made.asked(12);
        maps.forget();
        due("after forget()", maps.ask(0, 1), 0);
        maps.fold(0);
        due("after fold()", maps.ask(0, 1), 1);
        maps.move(0, 9);
        due("after move()", maps.ask(0, 1), 0);
        maps.renew();
        due("after renew()", maps.ask(0, 1), 0);
        due("kept", maps.count(3), 1);
        due("questions so far", maps.count(6), 16);
    }

    /** "A folding is ... a mask with the bit k for the crease k; torn creases are in none." */
    private static void foldingsOfATornStrip() {
        for (int crease = 0; crease < 9; crease++) {
            CreaseMaps maps = new CreaseMaps();
            maps.fold(crease);
            maps.pull(9);
            due("torn " + crease + ": foldings", maps.count(4), 256);
            due("torn " + crease + ": walked", maps.count(5), 256);
            for (int rank = 0; rank < 256; rank++) {
                int low = rank & (1 << crease) - 1;
                due("torn " + crease + ": folding(" + rank + ")", maps.folding(rank), (rank - low) * 2 + low);
            }
            due("torn " + crease + ": folding(256)", maps.folding(256), -1);
        }
        CreaseMaps all = Made.allTorn();
        due("all torn: foldings", all.count(4), 1);
        due("all torn: folding(0)", all.folding(0), 0);
        due("all torn: folding(1)", all.folding(1), -1);
    }

    /** "A folding fits, if all answers that are kept would be the same with it": all of them, if none is kept. */
    private static void foldingsThatFit() {
        due("none is kept", new CreaseMaps().count(4), 512);
        CreaseMaps apart = new CreaseMaps();
        apart.ask(0, 2);
        due("apart: foldings", apart.count(4), 384);
        int[] masks = {0, 1, 2, 4, 5, 6, 8};
        for (int rank = 0; rank < masks.length; rank++) {
            due("apart: folding(" + rank + ")", apart.folding(rank), masks[rank]);
        }
        CreaseMaps touching = Made.loaded("a^^b|||||||");
        touching.ask(0, 1);
        due("touching: foldings", touching.count(4), 128);
        due("touching: folding(0)", touching.folding(0), 3);
        due("touching: folding(127)", touching.folding(127), 511);
        CreaseMaps same = Made.loaded("|||||||||");
        same.ask(0, 5);
        due("on one panel all fit", same.count(4), 512);
    }

    /** "Returns 10 if it is right; otherwise how many creases are as it tells, 0 to 8." */
    private static void guessOfEachDistance() {
        CreaseMaps maps = Made.loaded(Made.LONGEST_MAP);
        int folding = 1 + 2 + 8 + 64 + 128;
        int wrong = 0;
        due("right", maps.guess(folding), 10);
        for (int crease = 0; crease < 9; crease++) {
            wrong |= 1 << crease;
            due("wrong in " + (crease + 1), maps.guess(folding ^ wrong), 8 - crease);
            due("wrong in the crease " + crease + " alone", maps.guess(folding ^ 1 << crease), 8);
        }
    }

    private static void guessAtTheEnds() {
        CreaseMaps flat = new CreaseMaps();
        due("flat: guess(0)", flat.guess(0), 10);
        due("flat: guess(511)", flat.guess(511), 0);
        CreaseMaps folded = Made.loaded("^^^^^^^^^");
        due("folded: guess(511)", folded.guess(511), 10);
        due("folded: guess(0)", folded.guess(0), 0);
        due("folded: guess(510)", folded.guess(510), 8);
        due("folded: guess(255)", folded.guess(255), 8);
    }

    /** A torn crease is flat: a guess that tells it folded is wrong there, and no exception. */
    private static void guessOfATornCrease() {
        CreaseMaps torn = Made.torn();
        due("guess(1)", torn.guess(1), 8);
        due("guess(0)", torn.guess(0), 10);
        due("guess(511)", torn.guess(511), 0);
        due("refused so far", torn.count(9), 0);
    }

    private static void guessChangesCountsAlone() {
        DUE.sameText("a right guess changes", Seen.changes(Made::rich, m -> m.guess(8)),
                "count(7) 0>1, count(8) 0>1, count(10) 5>6");
        DUE.sameText("a wrong one changes", Seen.changes(Made::rich, m -> m.guess(9)),
                "count(7) 0>1, count(10) 5>6");
        DUE.sameText("a wrong one, when 6 states are saved, changes", Seen.changes(Made::full, m -> m.guess(511)),
                "count(7) 1>2");
    }

    /** "Returns how many were kept." */
    private static void forgetOfNoneAndOfTwelve() {
        due("forget() of none", new CreaseMaps().forget(), 0);
        DUE.sameText("it changes", Seen.changes(CreaseMaps::new, CreaseMaps::forget), "count(10) 0>1");
        due("forget() of one", Made.asked(1).forget(), 1);
        CreaseMaps maps = Made.asked(12);
        due("forget() of 12", maps.forget(), 12);
        due("none is kept", maps.count(3), 0);
        due("questions so far", maps.count(6), 12);
        due("forget() again", maps.forget(), 0);
        due("all foldings fit", maps.count(4), 512);
    }
}
