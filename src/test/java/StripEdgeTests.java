/** The edges that the document names of the strip: its terms, wear, and the promises 1 to 5; each beside its words. */
final class StripEdgeTests {

    private static final Due DUE = new Due("StripEdgeTests");

    public static void main(String[] args) {
        newObject();
        eachCreaseByItself();
        laidTheOtherWayAgain();
        farthestPlaces();
        touching();
        severalTownsOnOnePanel();
        foldAtBothEnds();
        wearOfEachFold();
        wearOf511Calls();
        foldOfATornCrease();
        foldTakesAnswersAway();
        moveToTheSamePanel();
        moveTellsThePanelBefore();
        pullOfEachStrengthAndWear();
        pullLeavesFlatCreases();
        pullOfNoneAndOfAll();
        pullAndAnswers();
        renewOfWholeAndOfTornStrips();
        renewLeavesTownsAndCounts();
        DUE.end();
    }

    private static void due(String what, long got, long want) {
        DUE.sameLong(what, got, want);
    }

    /** "Creates a flat strip, with empty slots and an empty buffer." */
    private static void newObject() {
        CreaseMaps maps = new CreaseMaps();
        for (int crease = 0; crease < 9; crease++) {
            due("new: flat " + crease, maps.creaseOf(crease, 0), 0);
            due("new: \"a wear, at first 0\" " + crease, maps.creaseOf(crease, 1), 0);
            due("new: not torn " + crease, maps.creaseOf(crease, 2), 0);
        }
        for (int town = 0; town < 6; town++) {
            due("\"the town t lies at first on the panel t\" " + town, maps.town(town), town);
        }
        for (int what : new int[] {0, 1, 3, 6, 7, 8, 9, 10}) {
            due("new: count(" + what + ")", maps.count(what), 0);
        }
        due("new: an empty buffer", maps.clearBuffer(), 0);
        DUE.throwsIt("new: an empty slot 0", Due.STATE, () -> maps.goBack(0));
        DUE.throwsIt("new: an empty slot 1", Due.STATE, () -> maps.goBack(1));
        DUE.throwsIt("new: nothing saved", Due.STATE, maps::undo);
    }

    /** "The crease k is between the panels k and k + 1"; behind a folded one the strip "is laid the other way". */
    private static void eachCreaseByItself() {
        for (int crease = 0; crease < 9; crease++) {
            CreaseMaps maps = new CreaseMaps();
            maps.fold(crease);
            for (int panel = 0; panel < 10; panel++) {
                int place = panel <= crease ? panel : crease - (panel - crease - 1);
                due("crease " + crease + ": place of " + panel, maps.panelOf(panel, 0), 100 + place);
            }
        }
    }

    private static void laidTheOtherWayAgain() {
        int[][] places = {
            {100, 100, 100, 101, 102, 103, 104, 105, 106, 107},
            {100, 100, 99, 99, 100, 101, 102, 103, 104, 105},
            {100, 101, 102, 103, 104, 105, 106, 107, 107, 107}};
        String[] texts = {"^^|||||||", "^|^||||||", "|||||||^^"};
        for (int i = 0; i < texts.length; i++) {
            CreaseMaps maps = Made.loaded(texts[i]);
            for (int panel = 0; panel < 10; panel++) {
                due(texts[i] + ": place of " + panel, maps.panelOf(panel, 0), places[i][panel]);
            }
        }
    }

    /** "The panel 0 lies at the place 0, and it is laid to the right." */
    private static void farthestPlaces() {
        due("the greatest place", new CreaseMaps().panelOf(9, 0), 109);
        due("the least place", Made.loaded("^||||||||").panelOf(9, 0), 92);
        due("all at the place 0", Made.loaded("^^^^^^^^^").panelOf(9, 0), 100);
        due("the panel 0 behind no crease", Made.loaded("^^^^^^^^^").panelOf(0, 0), 100);
    }

    /** "Two towns touch, if their panels lie at the same place": not if they lie next to each other. */
    private static void touching() {
        CreaseMaps maps = Made.loaded("a|b^c|d|e|||||f");
        due("b and c", maps.between(1, 2, 2), 1);
        due("a and d", maps.between(0, 3, 2), 1);
        due("a and b, one apart", maps.between(0, 1, 2), 0);
        due("a and e, one apart to the left", maps.between(0, 4, 2), 0);
        due("e and f, far to the left", maps.between(4, 5, 2), 0);
    }

    private static void severalTownsOnOnePanel() {
        CreaseMaps maps = new CreaseMaps();
        for (int town = 0; town < 6; town++) {
            maps.move(town, 9);
        }
        due("all six on the panel 9", maps.panelOf(9, 1), 63);
        due("none on the panel 0", maps.panelOf(0, 1), 0);
        due("they touch", maps.between(0, 5, 2), 1);
    }

    /** "Returns 1 if it is folded then, otherwise 0." */
    private static void foldAtBothEnds() {
        for (int crease = 0; crease < 9; crease++) {
            CreaseMaps maps = new CreaseMaps();
            due("fold(" + crease + ")", maps.fold(crease), 1);
            due("fold(" + crease + ") and no other", maps.guess(1 << crease), 10);
            due("fold(" + crease + ") again", maps.fold(crease), 0);
            due("fold(" + crease + ") twice leaves a flat strip", maps.guess(0), 10);
            due("fold(" + crease + ") the third time", maps.fold(crease), 1);
        }
    }

    /** "Each time fold() folds a crease, or makes it flat, its wear is 1 more." */
    private static void wearOfEachFold() {
        CreaseMaps maps = new CreaseMaps();
        maps.fold(0);
        due("folded once", maps.creaseOf(0, 1), 1);
        maps.fold(0);
        due("and made flat", maps.creaseOf(0, 1), 2);
        due("its neighbour", maps.creaseOf(1, 1), 0);
        CreaseMaps told = Made.loaded("^^^^^^^^^");
        due("folded by load()", told.creaseOf(8, 1), 0);
        told.fold(8);
        due("folded by load(), then made flat", told.creaseOf(8, 1), 1);
    }

    /** "An object is used for at most 512 calls": the last of them still answers, and wear has no limit of its own. */
    private static void wearOf511Calls() {
        CreaseMaps maps = new CreaseMaps();
        Made.foldTimes(maps, 4, 511);
        due("the call 512", maps.creaseOf(4, 1), 511);
        CreaseMaps other = new CreaseMaps();
        Made.foldTimes(other, 4, 511);
        due("the fold 512", other.fold(4), 0);
        CreaseMaps worn = new CreaseMaps();
        Made.foldTimes(worn, 4, 511);
        due("pulled lightly after 511 folds", worn.pull(1), 1);
    }

    /** "A torn crease is flat, and cannot be folded any more"; "NONE if it is refused, as it is torn". */
    private static void foldOfATornCrease() {
        CreaseMaps maps = Made.torn();
        due("torn: flat", maps.creaseOf(0, 0), 0);
        due("torn: \"not when it tears: then it stays as it was\"", maps.creaseOf(0, 1), 1);
        due("torn: fold(0)", maps.fold(0), -1);
        due("torn: fold(0) again", maps.fold(0), -1);
        due("torn: refused so far", maps.count(9), 2);
        due("torn: its wear", maps.creaseOf(0, 1), 1);
        due("torn: the next crease is whole", maps.fold(1), 1);
        DUE.sameText("a refused fold changes", Seen.changes(Made::rich, m -> m.fold(0)), "count(9) 0>1, count(10) 5>6");
        for (int crease = 0; crease < 9; crease++) {
            due("all torn: fold(" + crease + ")", Made.allTorn().fold(crease), -1);
        }
    }

    /** "All answers are taken away by fold() that is not refused." */
    private static void foldTakesAnswersAway() {
        CreaseMaps maps = Made.asked(12);
        maps.fold(8);
        due("12 answers, then folded", maps.count(3), 0);
        maps.ask(0, 1);
        maps.fold(8);
        due("an answer, then made flat", maps.count(3), 0);
        CreaseMaps torn = Made.torn();
        torn.ask(0, 1);
        torn.fold(0);
        due("an answer, then refused", torn.count(3), 1);
        due("the answer itself", torn.between(0, 1, 3), 0);
    }

    /** "By move() (also to the same panel)." */
    private static void moveToTheSamePanel() {
        CreaseMaps maps = Made.asked(12);
        due("to the same panel", maps.move(5, 5), 5);
        due("the answers are gone", maps.count(3), 0);
        due("the town stays", maps.town(5), 5);
        DUE.sameText("move to the same panel, with no answers, changes",
                Seen.changes(CreaseMaps::new, m -> m.move(0, 0)), "count(10) 0>1");
        CreaseMaps other = Made.asked(12);
        other.move(5, 6);
        due("the answers are gone by another panel, too", other.count(3), 0);
    }

    /** "Returns the panel before." */
    private static void moveTellsThePanelBefore() {
        CreaseMaps maps = new CreaseMaps();
        due("town 0 from 0 to 9", maps.move(0, 9), 0);
        due("town 0 from 9 to 0", maps.move(0, 0), 9);
        due("town 5 from 5 to 9", maps.move(5, 9), 5);
        due("town 5 from 9 to 0", maps.move(5, 0), 9);
        due("town 0", maps.town(0), 0);
        due("town 5", maps.town(5), 0);
        due("town 1 stays", maps.town(1), 1);
    }

    /** "Tears each folded crease whose wear is at least 10 less the strength." */
    private static void pullOfEachStrengthAndWear() {
        for (int strength = 1; strength <= 9; strength++) {
            for (int wear = 0; wear <= 10; wear++) {
                // Folded, whether the wear is odd or even.
                CreaseMaps maps = Made.loaded(wear % 2 == 0 ? "||||^||||" : "|||||||||");
                Made.foldTimes(maps, 4, wear);
                int tears = wear >= 10 - strength ? 1 : 0;
                String what = "strength " + strength + ", wear " + wear;
                due(what + ": pull", maps.pull(strength), tears);
                due(what + ": torn", maps.creaseOf(4, 2), tears);
                due(what + ": folded", maps.creaseOf(4, 0), 1 - tears);
                due(what + ": the wear stays", maps.creaseOf(4, 1), wear);
            }
        }
    }

    private static void pullLeavesFlatCreases() {
        CreaseMaps maps = new CreaseMaps();
        Made.foldTimes(maps, 2, 10);
        due("a flat crease with a wear of 10", maps.pull(9), 0);
        due("it is whole", maps.creaseOf(2, 2), 0);
        due("and can be folded", maps.fold(2), 1);
    }

    /** "Returns how many creases tear." */
    private static void pullOfNoneAndOfAll() {
        due("new: pull(9)", new CreaseMaps().pull(9), 0);
        due("folded without wear: pull(9)", Made.loaded("^^^^^^^^^").pull(9), 0);
        CreaseMaps maps = new CreaseMaps();
        for (int crease = 0; crease < 9; crease++) {
            maps.fold(crease);
        }
        due("all folded once: pull(8)", maps.pull(8), 0);
        due("all folded once: pull(9)", maps.pull(9), 9);
        due("all torn", maps.count(1), 9);
        due("all flat", maps.count(0), 0);
        due("all torn: pull(9)", maps.pull(9), 0);
        due("all stay torn", maps.count(1), 9);
        CreaseMaps ends = new CreaseMaps();
        ends.fold(0);
        ends.fold(8);
        due("both ends: pull(9)", ends.pull(9), 2);
        due("the crease 0", ends.creaseOf(0, 2), 1);
        due("the crease 8", ends.creaseOf(8, 2), 1);
    }

    /** "By pull() with which a crease tears": and not by another pull. */
    private static void pullAndAnswers() {
        CreaseMaps maps = new CreaseMaps();
        maps.fold(8);
        maps.ask(0, 1);
        maps.pull(8);
        due("none tears: answers", maps.count(3), 1);
        maps.pull(9);
        due("one tears: answers", maps.count(3), 0);
        DUE.sameText("a pull that tears none changes", Seen.changes(Made::rich, m -> m.pull(8)), "count(10) 5>6");
    }

    /** "Returns how many creases of the old one were torn." */
    private static void renewOfWholeAndOfTornStrips() {
        due("new: renew()", new CreaseMaps().renew(), 0);
        DUE.sameText("renew() of a new one changes", Seen.changes(CreaseMaps::new, CreaseMaps::renew), "count(10) 0>1");
        due("folded: renew()", Made.loaded("^^^^^^^^^").renew(), 0);
        due("one torn: renew()", Made.torn().renew(), 1);
        CreaseMaps maps = Made.allTorn();
        due("all torn: renew()", maps.renew(), 9);
        for (int crease = 0; crease < 9; crease++) {
            due("renewed: torn " + crease, maps.creaseOf(crease, 2), 0);
            due("renewed: wear " + crease, maps.creaseOf(crease, 1), 0);
            due("renewed: fold(" + crease + ")", maps.fold(crease), 1);
        }
        CreaseMaps worn = new CreaseMaps();
        Made.foldTimes(worn, 3, 2);
        worn.fold(8);
        worn.renew();
        due("the wear of a flat one", worn.creaseOf(3, 1), 0);
        due("the wear of a folded one", worn.creaseOf(8, 1), 0);
        due("a folded one is flat", worn.creaseOf(8, 0), 0);
    }

    /** "The towns stay"; answers are "taken away by renew()", also if the strip was new. */
    private static void renewLeavesTownsAndCounts() {
        CreaseMaps maps = Made.asked(12);
        maps.renew();
        due("no answers", maps.count(3), 0);
        due("questions so far", maps.count(6), 12);
        maps.move(0, 9);
        maps.guess(0);
        maps.ask(0, 1);
        maps.ask(1, 0);
        maps.renew();
        due("the town that was moved", maps.town(0), 9);
        due("questions so far, then", maps.count(6), 13);
        due("guesses so far", maps.count(7), 1);
        due("right ones", maps.count(8), 1);
        due("refused so far", maps.count(9), 1);
    }
}
