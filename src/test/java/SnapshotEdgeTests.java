import java.util.List;
import java.util.Map;
import java.util.function.Consumer;

/** The edges that the document names of snapshots and undo: their terms, and the promises 13 to 15. */
final class SnapshotEdgeTests {

    private record Step(String name, Consumer<CreaseMaps> call) {
    }

    /** Each method that is marked "undoable", also refused or changing nothing; for Made.rich and Made.sixSaved. */
    private static final List<Step> UNDOABLE = List.of(
            new Step("fold", m -> m.fold(4)),
            new Step("fold that makes flat", m -> m.fold(3)),
            new Step("refused fold", m -> m.fold(0)),
            new Step("move", m -> m.move(2, 9)),
            new Step("move to the same panel", m -> m.move(2, m.town(2))),
            new Step("pull that tears", m -> m.pull(9)),
            new Step("pull that tears none", m -> m.pull(1)),
            new Step("renew", CreaseMaps::renew),
            new Step("ask", m -> m.ask(3, 4)),
            new Step("refused ask", m -> m.ask(1, 0)),
            new Step("right guess", m -> m.guess(8)),
            new Step("wrong guess", m -> m.guess(511)),
            new Step("forget", CreaseMaps::forget),
            new Step("goBack", m -> m.goBack(0)),
            new Step("load", SnapshotEdgeTests::loadMap));

    /** Calls that are not marked so. */
    private static final List<Step> OTHERS = List.of(
            new Step("append", m -> m.append('a')),
            new Step("clearBuffer", CreaseMaps::clearBuffer),
            new Step("firstError", CreaseMaps::firstError),
            new Step("keep(0)", m -> m.keep(0)),
            new Step("keep(1)", m -> m.keep(1)));

    private static final Due DUE = new Due("SnapshotEdgeTests");

    public static void main(String[] args) {
        keepOfNoneAndOfTwelveAnswers();
        keepInPlaceOfTheOneBefore();
        keepSavesNothing();
        slotsAreTwo();
        snapshotStaysAsItWas();
        goBackToEmptySlots();
        goBackStays();
        goBackBringsAllBack();
        goBackLeavesBufferSlotsAndSaved();
        goBackToWhatIs();
        undoOfNothing();
        undoOfEachCall();
        goBackBringsTheAnswersBack();
        undoBringsTheAnswersBack();
        savedStatesAreAtMostSix();
        oldestIsDroppedByEachCall();
        undoSavesNothing();
        undoLeavesBufferAndSlots();
        othersSaveNothing();
        throwingSavesNothing();
        DUE.end();
    }

    private static void due(String what, long got, long want) {
        DUE.sameLong(what, got, want);
    }

    private static void loadMap(CreaseMaps maps) {
        maps.clearBuffer();
        Made.type(maps, Made.LONGEST_MAP);
        maps.load();
    }

    /** "Returns how many answers are kept." */
    private static void keepOfNoneAndOfTwelveAnswers() {
        due("none", new CreaseMaps().keep(0), 0);
        due("one", Made.asked(1).keep(1), 1);
        CreaseMaps maps = Made.asked(12);
        due("12", maps.keep(0), 12);
        maps.forget();
        due("forgotten", maps.keep(1), 0);
        due("goBack to 12", maps.goBack(0), 12);
        due("the twelfth", maps.between(2, 5, 3), 0);
        due("goBack to none", maps.goBack(1), 0);
        due("none", maps.between(2, 5, 3), -1);
    }

    /** "Takes a snapshot, in place of the one in the slot." */
    private static void keepInPlaceOfTheOneBefore() {
        for (int slot = 0; slot < 2; slot++) {
            CreaseMaps maps = Made.rich();
            maps.keep(slot);
            maps.renew();
            maps.move(5, 9);
            maps.keep(slot);
            maps.fold(8);
            maps.ask(0, 1);
            due("slot " + slot + ": goBack", maps.goBack(slot), 0);
            due("slot " + slot + ": the town", maps.town(5), 9);
            due("slot " + slot + ": folded", maps.count(0), 0);
            due("slot " + slot + ": torn", maps.count(1), 0);
            due("slot " + slot + ": wear", maps.creaseOf(8, 1), 0);
        }
    }

    private static void keepSavesNothing() {
        DUE.sameText("keep(0) changes", Seen.changes(Made::rich, m -> m.keep(0)), "");
        DUE.sameText("keep(1) changes", Seen.changes(Made::rich, m -> m.keep(1)), "");
        CreaseMaps maps = Made.rich();
        maps.keep(1);
        due("saved states", maps.count(10), 5);
    }

    private static void slotsAreTwo() {
        CreaseMaps maps = new CreaseMaps();
        maps.keep(0);
        DUE.throwsIt("the slot 1 stays empty", Due.STATE, () -> maps.goBack(1));
        CreaseMaps other = new CreaseMaps();
        other.keep(1);
        DUE.throwsIt("the slot 0 stays empty", Due.STATE, () -> other.goBack(0));
        maps.fold(2);
        maps.keep(1);
        maps.fold(3);
        maps.goBack(0);
        due("the slot 0", maps.guess(0), 10);
        maps.goBack(1);
        due("the slot 1", maps.guess(4), 10);
        maps.goBack(0);
        due("the slot 0 again", maps.guess(0), 10);
    }

    private static void snapshotStaysAsItWas() {
        for (Step step : UNDOABLE) {
            CreaseMaps maps = Made.rich();
            maps.keep(1);
            step.call.accept(maps);
            String after = Seen.whole(maps);
            String kept = after.substring(after.indexOf("slot 1"));
            CreaseMaps still = Made.rich();
            still.keep(1);
            // Both are undone wholly before the slots are looked at, and so have as many saved states then.
            String before = Seen.whole(still);
            DUE.sameText("the snapshot after " + step.name, kept, before.substring(before.indexOf("slot 1")));
        }
    }

    /** "Throws IllegalStateException if there is no snapshot in it." */
    private static void goBackToEmptySlots() {
        CreaseMaps maps = Made.asked(12);
        long before = maps.digest();
        for (int slot = 0; slot < 2; slot++) {
            int empty = slot;
            DUE.throwsIt("goBack(" + slot + ")", Due.STATE, () -> maps.goBack(empty));
        }
        DUE.throwsIt("goBack(2), named first", Due.ARGUMENT, () -> maps.goBack(2));
        DUE.throwsIt("goBack(-1), named first", Due.ARGUMENT, () -> maps.goBack(-1));
        due("they change nothing", maps.digest(), before);
    }

    /** "Goes back to a snapshot, which stays." */
    private static void goBackStays() {
        CreaseMaps maps = Made.asked(3);
        maps.keep(1);
        for (int i = 0; i < 4; i++) {
            maps.fold(i);
            due("goBack " + i, maps.goBack(1), 3);
            due("goBack " + i + ": flat", maps.count(0), 0);
            due("goBack " + i + ": wear", maps.creaseOf(i, 1), 0);
        }
    }

    /** "A snapshot is all but the buffer, the slots and the saved states." */
    private static void goBackBringsAllBack() {
        Map<String, Long> before = Seen.looks(Made.rich());
        for (Step step : UNDOABLE) {
            CreaseMaps maps = Made.rich();
            maps.keep(1);
            step.call.accept(maps);
            maps.goBack(1);
            DUE.sameText("goBack after " + step.name, Seen.changes(before, Seen.looks(maps)), "count(10) 5>6");
        }
    }

    private static void goBackLeavesBufferSlotsAndSaved() {
        CreaseMaps maps = new CreaseMaps();
        maps.fold(1);
        maps.keep(0);
        maps.fold(2);
        maps.keep(1);
        Made.type(maps, "abc");
        due("goBack(0)", maps.goBack(0), 0);
        due("the buffer stays", maps.clearBuffer(), 3);
        due("the saved states stay, and one more is there", maps.count(10), 3);
        due("undo()", maps.undo(), 2);
        due("the state from before goBack", maps.guess(6), 10);
        maps.undo();
        maps.goBack(1);
        due("the other slot stays, though it is later", maps.guess(6), 10);
    }

    /** Undoable "also if it changes nothing". */
    private static void goBackToWhatIs() {
        CreaseMaps maps = new CreaseMaps();
        maps.keep(0);
        due("goBack(0)", maps.goBack(0), 0);
        due("saved", maps.count(10), 1);
        due("undo()", maps.undo(), 0);
        DUE.throwsIt("undo() again", Due.STATE, maps::undo);
    }

    /** "Throws IllegalStateException if there is none." */
    private static void undoOfNothing() {
        DUE.throwsIt("new: undo()", Due.STATE, () -> new CreaseMaps().undo());
        CreaseMaps maps = new CreaseMaps();
        maps.fold(0);
        due("undo() of the only one", maps.undo(), 0);
        long before = maps.digest();
        DUE.throwsIt("undo() of none", Due.STATE, maps::undo);
        due("it changes nothing", maps.digest(), before);
        due("and is as new", before, new CreaseMaps().digest());
    }

    /** "Restores the latest saved state, and drops it": all is as before, also what is counted, and what is saved. */
    private static void undoOfEachCall() {
        String before = Seen.whole(Made.rich());
        CreaseMaps cleared = Made.rich();
        cleared.clearBuffer();
        String beforeLoad = Seen.whole(cleared);
        for (Step step : UNDOABLE) {
            CreaseMaps maps = Made.rich();
            step.call.accept(maps);
            due("saved after " + step.name, maps.count(10), 6);
            due("undo() of " + step.name, maps.undo(), 5);
            DUE.sameText("undo() of " + step.name + ": all that is to be seen then", Seen.whole(maps),
                    step.name.equals("load") ? beforeLoad : before);
        }
    }

    /** As many answers as before, the first and the twelfth among them, but others: of other panels, or not the same. */
    private static void goBackBringsTheAnswersBack() {
        CreaseMaps maps = Made.asked(12);
        Map<String, Long> before = Seen.looks(maps);
        maps.keep(0);
        askOtherTwelve(maps);
        due("none is kept for the panels 0 and 1", maps.between(0, 1, 3), -1);
        due("the answer 1 is kept for the panels 0 and 3", maps.between(0, 3, 3), 1);
        due("goBack()", maps.goBack(0), 12);
        DUE.sameText("goBack() to 12 other answers", Seen.changes(before, Seen.looks(maps)), "");
    }

    private static void undoBringsTheAnswersBack() {
        CreaseMaps maps = Made.asked(12);
        Map<String, Long> before = Seen.looks(maps);
        maps.keep(0);
        askOtherTwelve(maps);
        maps.keep(1);
        due("goBack() to the first 12", maps.goBack(0), 12);
        due("undo() of it", maps.undo(), 5);
        due("the answer 1 is kept for the panels 0 and 3", maps.between(0, 3, 3), 1);
        due("none is kept for the panels 0 and 1", maps.between(0, 1, 3), -1);
        maps.goBack(0);
        maps.goBack(1);
        maps.undo();
        DUE.sameText("undo() to the first 12", Seen.changes(before, Seen.looks(maps)), "count(10) 6>5");
    }

    /** With the crease 1 folded, from the last question on: the twelfth is the one of the panels 0 and 3, which touch. */
    private static void askOtherTwelve(CreaseMaps maps) {
        maps.fold(1);
        int asked = 0;
        for (int town = 5; town >= 0; town--) {
            for (int other = town - 1; other >= 0; other--) {
                if (asked < 12) {
                    maps.ask(town, other);
                    asked++;
                }
            }
        }
    }

    /** "At most 6 states are saved; the oldest one is dropped first." */
    private static void savedStatesAreAtMostSix() {
        CreaseMaps maps = new CreaseMaps();
        for (int calls = 1; calls <= 9; calls++) {
            maps.fold(calls - 1);
            due("saved after " + calls, maps.count(10), Math.min(calls, 6));
        }
        for (int left = 5; left >= 0; left--) {
            due("undo()", maps.undo(), left);
            due("saved then", maps.count(10), left);
            due("folded then", maps.count(0), 3 + left);
        }
        DUE.throwsIt("undo() of the seventh", Due.STATE, maps::undo);
        due("it stays", maps.guess(7), 10);
        due("saved again", maps.count(10), 1);
    }

    private static void oldestIsDroppedByEachCall() {
        for (Step step : UNDOABLE) {
            CreaseMaps maps = Made.sixSaved();
            due("saved before " + step.name, maps.count(10), 6);
            step.call.accept(maps);
            due("saved after " + step.name, maps.count(10), 6);
            int[] panels = {4, 4, 6, 7, 8, 9};
            for (int i = 0; i < panels.length; i++) {
                due("undo() after " + step.name, maps.undo(), 5 - i);
                due("the town 5 then", maps.town(5), panels[i]);
            }
            DUE.throwsIt("undo() of what was dropped by " + step.name, Due.STATE, maps::undo);
        }
    }

    private static void undoSavesNothing() {
        CreaseMaps maps = new CreaseMaps();
        maps.fold(0);
        maps.fold(1);
        maps.undo();
        due("undo() of the later one", maps.guess(1), 10);
        maps.undo();
        due("undo() of that guess", maps.count(7), 0);
        maps.undo();
        due("undo() of the first one", maps.count(0), 0);
        DUE.throwsIt("undo() of no undo()", Due.STATE, maps::undo);
    }

    /** The saved state is "all ... but the buffer, the slots and the saved states". */
    private static void undoLeavesBufferAndSlots() {
        CreaseMaps maps = new CreaseMaps();
        maps.keep(0);
        maps.fold(6);
        maps.keep(0);
        maps.keep(1);
        Made.type(maps, "a|");
        due("undo()", maps.undo(), 0);
        due("the buffer stays", maps.clearBuffer(), 2);
        maps.goBack(0);
        due("the slot 0 stays the newer one", maps.guess(64), 10);
        maps.renew();
        maps.goBack(1);
        due("the slot 1 stays", maps.guess(64), 10);
    }

    private static void othersSaveNothing() {
        for (Step step : OTHERS) {
            CreaseMaps maps = Made.sixSaved();
            step.call.accept(maps);
            due("saved after " + step.name, maps.count(10), 6);
            for (int panel : new int[] {4, 6, 7, 8, 9, 5}) {
                maps.undo();
                due("undo() after " + step.name, maps.town(5), panel);
            }
            CreaseMaps fresh = new CreaseMaps();
            step.call.accept(fresh);
            due("new: saved after " + step.name, fresh.count(10), 0);
        }
    }

    /** "Each method that ... does not throw an exception": with 6 saved states the oldest one is still there. */
    private static void throwingSavesNothing() {
        List<Step> throwing = List.of(
                new Step("fold", m -> DUE.throwsIt("fold(9)", Due.INDEX, () -> m.fold(9))),
                new Step("move", m -> DUE.throwsIt("move(0, 10)", Due.ARGUMENT, () -> m.move(0, 10))),
                new Step("pull", m -> DUE.throwsIt("pull(0)", Due.ARGUMENT, () -> m.pull(0))),
                new Step("ask", m -> DUE.throwsIt("ask(1, 1)", Due.ARGUMENT, () -> m.ask(1, 1))),
                new Step("guess", m -> DUE.throwsIt("guess(512)", Due.ARGUMENT, () -> m.guess(512))),
                new Step("load", m -> DUE.throwsIt("load()", Due.ARGUMENT, m::load)),
                new Step("goBack", m -> DUE.throwsIt("goBack(1)", Due.STATE, () -> m.goBack(1))));
        String untouched = Seen.whole(Made.sixSaved());
        for (Step step : throwing) {
            CreaseMaps maps = Made.sixSaved();
            step.call.accept(maps);
            DUE.sameText("after a " + step.name + " that throws", Seen.whole(maps), untouched);
        }
    }
}
