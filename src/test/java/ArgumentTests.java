import java.util.ArrayList;
import java.util.List;
import java.util.function.Supplier;

/**
 * Each argument of each call: just too small, the smallest, the largest, just too large, and the ends of int. A call
 * that throws throws the exception that is named first, and changes nothing, whatever state the object is in.
 */
final class ArgumentTests {

    private interface On {
        double answer(CreaseMaps maps);
    }

    private record Thrown(String call, Class<? extends RuntimeException> want, On on) {
    }

    private static final int LOW = Due.LOW;
    private static final int HIGH = Due.HIGH;
    private static final int[] NO_CREASES = {-1, 9, LOW, HIGH};
    private static final int[] NO_TOWNS = {-1, 6, LOW, HIGH};
    private static final int[] NO_PANELS = {-1, 10, LOW, HIGH};
    private static final int[] NO_STRENGTHS = {-1, 0, 10, LOW, HIGH};
    private static final int[] NO_FOLDINGS = {-1, 512, LOW, HIGH};
    private static final int[] NO_CODES = {-1, 0, 32, 127, LOW, HIGH};
    private static final int[] NO_SLOTS = {-1, 2, LOW, HIGH};
    private static final int[] NO_RANKS = {-1, LOW};

    private static final Due DUE = new Due("ArgumentTests");

    public static void main(String[] args) {
        smallestAndLargestOfTheStrip();
        smallestAndLargestOfAsking();
        smallestAndLargestOfTextsAndSlots();
        smallestAndLargestOfLooks();
        smallestAndLargestOfWhatWouldBe();
        List<Thrown> everywhere = thrownEverywhere();
        thrownIn("a new object", CreaseMaps::new, everywhere);
        thrownIn("a rich one", Made::rich, everywhere);
        thrownIn("a full one", Made::full, everywhere);
        thrownIn("a new object", CreaseMaps::new, thrownByNew());
        thrownIn("a rich one", Made::rich, thrownByRich());
        thrownIn("a full one", Made::full, thrownByFull());
        DUE.end();
    }

    private static void taken(String call, On on, double want) {
        DUE.same("new: " + call, on.answer(new CreaseMaps()), want);
    }

    private static void smallestAndLargestOfTheStrip() {
        taken("fold(0)", m -> m.fold(0), 1);
        taken("fold(8)", m -> m.fold(8), 1);
        taken("move(0, 0)", m -> m.move(0, 0), 0);
        taken("move(0, 9)", m -> m.move(0, 9), 0);
        taken("move(5, 0)", m -> m.move(5, 0), 5);
        taken("move(5, 9)", m -> m.move(5, 9), 5);
        taken("pull(1)", m -> m.pull(1), 0);
        taken("pull(9)", m -> m.pull(9), 0);
    }

    private static void smallestAndLargestOfAsking() {
        taken("ask(0, 1)", m -> m.ask(0, 1), 0);
        taken("ask(0, 5)", m -> m.ask(0, 5), 0);
        taken("ask(5, 0)", m -> m.ask(5, 0), 0);
        taken("ask(5, 4)", m -> m.ask(5, 4), 0);
        taken("guess(0)", m -> m.guess(0), 10);
        taken("guess(511)", m -> m.guess(511), 0);
    }

    private static void smallestAndLargestOfTextsAndSlots() {
        for (int code = 33; code <= 126; code++) {
            int taken = code;
            taken("append(" + code + ")", m -> m.append(taken), 1);
        }
        taken("keep(0)", m -> m.keep(0), 0);
        taken("keep(1)", m -> m.keep(1), 0);
        DUE.sameLong("full: goBack(0)", Made.full().goBack(0), 0);
        DUE.sameLong("full: goBack(1)", Made.full().goBack(1), 0);
    }

    private static void smallestAndLargestOfLooks() {
        taken("panelOf(0, 0)", m -> m.panelOf(0, 0), 100);
        taken("panelOf(0, 2)", m -> m.panelOf(0, 2), 1);
        taken("panelOf(9, 0)", m -> m.panelOf(9, 0), 109);
        taken("panelOf(9, 2)", m -> m.panelOf(9, 2), 1);
        taken("creaseOf(0, 0)", m -> m.creaseOf(0, 0), 0);
        taken("creaseOf(0, 3)", m -> m.creaseOf(0, 3), -1);
        taken("creaseOf(8, 0)", m -> m.creaseOf(8, 0), 0);
        taken("creaseOf(8, 3)", m -> m.creaseOf(8, 3), -1);
        taken("between(0, 0, 0)", m -> m.between(0, 0, 0), 0);
        taken("between(0, 5, 0)", m -> m.between(0, 5, 0), 5);
        taken("between(5, 0, 0)", m -> m.between(5, 0, 0), 5);
        taken("between(5, 5, 0)", m -> m.between(5, 5, 0), 0);
        taken("between(0, 5, 3)", m -> m.between(0, 5, 3), -1);
        taken("between(5, 5, 3)", m -> m.between(5, 5, 3), -1);
        taken("town(0)", m -> m.town(0), 0);
        taken("town(5)", m -> m.town(5), 5);
        taken("count(0)", m -> m.count(0), 0);
        taken("count(10)", m -> m.count(10), 0);
    }

    private static void smallestAndLargestOfWhatWouldBe() {
        taken("ifTouching(0, 1)", m -> m.ifTouching(0, 1), 256);
        taken("ifTouching(0, 5)", m -> m.ifTouching(0, 5), 96);
        taken("ifTouching(5, 0)", m -> m.ifTouching(5, 0), 96);
        taken("ifTouching(5, 4)", m -> m.ifTouching(5, 4), 256);
        taken("folding(0)", m -> m.folding(0), 0);
        taken("folding(511)", m -> m.folding(511), 511);
        taken("folding(512)", m -> m.folding(512), -1);
        taken("folding(" + HIGH + ")", m -> m.folding(HIGH), -1);
    }

    private static void thrownIn(String state, Supplier<CreaseMaps> made, List<Thrown> calls) {
        String untouched = Seen.whole(made.get());
        for (Thrown thrown : calls) {
            CreaseMaps maps = made.get();
            String call = state + ": " + thrown.call;
            DUE.throwsIt(call, thrown.want, () -> thrown.on.answer(maps));
            DUE.sameText(call + ": all that is to be seen then", Seen.whole(maps), untouched);
        }
    }

    private static List<Thrown> thrownEverywhere() {
        List<Thrown> calls = new ArrayList<>();
        addOneArgument(calls);
        addTownAndPanel(calls);
        addTwoTowns(calls);
        addPanelAndCrease(calls);
        addBetween(calls);
        return calls;
    }

    private static void addOneArgument(List<Thrown> calls) {
        for (int no : NO_CREASES) {
            calls.add(new Thrown("fold(" + no + ")", Due.INDEX, m -> m.fold(no)));
        }
        for (int no : NO_STRENGTHS) {
            calls.add(new Thrown("pull(" + no + ")", Due.ARGUMENT, m -> m.pull(no)));
        }
        for (int no : NO_FOLDINGS) {
            calls.add(new Thrown("guess(" + no + ")", Due.ARGUMENT, m -> m.guess(no)));
        }
        for (int no : NO_CODES) {
            // In a full buffer both exceptions apply, and this one is named first.
            calls.add(new Thrown("append(" + no + ")", Due.ARGUMENT, m -> m.append(no)));
        }
        for (int no : NO_SLOTS) {
            calls.add(new Thrown("keep(" + no + ")", Due.ARGUMENT, m -> m.keep(no)));
            calls.add(new Thrown("goBack(" + no + ")", Due.ARGUMENT, m -> m.goBack(no)));
        }
        for (int no : NO_TOWNS) {
            calls.add(new Thrown("town(" + no + ")", Due.INDEX, m -> m.town(no)));
        }
        for (int no : new int[] {-1, 11, LOW, HIGH}) {
            calls.add(new Thrown("count(" + no + ")", Due.ARGUMENT, m -> m.count(no)));
        }
        for (int no : NO_RANKS) {
            calls.add(new Thrown("folding(" + no + ")", Due.ARGUMENT, m -> m.folding(no)));
        }
        // None of the three states has a map in its buffer.
        calls.add(new Thrown("load()", Due.ARGUMENT, CreaseMaps::load));
    }

    private static void addTownAndPanel(List<Thrown> calls) {
        for (int noPanel : NO_PANELS) {
            for (int town : new int[] {0, 5}) {
                calls.add(new Thrown("move(" + town + ", " + noPanel + ")", Due.ARGUMENT, m -> m.move(town, noPanel)));
            }
        }
        for (int noTown : NO_TOWNS) {
            for (int panel : new int[] {0, 9, -1, 10, LOW, HIGH}) {
                calls.add(new Thrown("move(" + noTown + ", " + panel + ")", Due.INDEX, m -> m.move(noTown, panel)));
            }
        }
    }

    private static void addTwoTowns(List<Thrown> calls) {
        for (int town = 0; town < 6; town++) {
            int same = town;
            calls.add(new Thrown("ask(" + same + ", itself)", Due.ARGUMENT, m -> m.ask(same, same)));
            calls.add(new Thrown("ifTouching(" + same + ", itself)", Due.ARGUMENT, m -> m.ifTouching(same, same)));
        }
        for (int no : NO_TOWNS) {
            // A wrong town twice is also the same one twice, which is named later.
            for (int[] towns : new int[][] {{no, 0}, {no, 5}, {0, no}, {5, no}, {no, no}}) {
                String text = "(" + towns[0] + ", " + towns[1] + ")";
                calls.add(new Thrown("ask" + text, Due.INDEX, m -> m.ask(towns[0], towns[1])));
                calls.add(new Thrown("ifTouching" + text, Due.INDEX, m -> m.ifTouching(towns[0], towns[1])));
            }
        }
    }

    private static void addPanelAndCrease(List<Thrown> calls) {
        for (int what : new int[] {-1, 3, LOW, HIGH}) {
            calls.add(new Thrown("panelOf(0, " + what + ")", Due.ARGUMENT, m -> m.panelOf(0, what)));
            calls.add(new Thrown("panelOf(9, " + what + ")", Due.ARGUMENT, m -> m.panelOf(9, what)));
        }
        for (int what : new int[] {-1, 4, LOW, HIGH}) {
            calls.add(new Thrown("creaseOf(0, " + what + ")", Due.ARGUMENT, m -> m.creaseOf(0, what)));
            calls.add(new Thrown("creaseOf(8, " + what + ")", Due.ARGUMENT, m -> m.creaseOf(8, what)));
        }
        for (int what : new int[] {0, 2, 3, -1, 4, LOW, HIGH}) {
            for (int no : NO_PANELS) {
                calls.add(new Thrown("panelOf(" + no + ", " + what + ")", Due.INDEX, m -> m.panelOf(no, what)));
            }
            for (int no : NO_CREASES) {
                calls.add(new Thrown("creaseOf(" + no + ", " + what + ")", Due.INDEX, m -> m.creaseOf(no, what)));
            }
        }
    }

    private static void addBetween(List<Thrown> calls) {
        for (int what : new int[] {-1, 4, LOW, HIGH}) {
            for (int other : new int[] {0, 5}) {
                calls.add(new Thrown("between(0, " + other + ", " + what + ")", Due.ARGUMENT,
                        m -> m.between(0, other, what)));
            }
        }
        for (int what : new int[] {0, 3, -1, 4, LOW, HIGH}) {
            for (int no : NO_TOWNS) {
                for (int[] towns : new int[][] {{no, 0}, {no, 5}, {0, no}, {5, no}, {no, no}}) {
                    calls.add(new Thrown("between(" + towns[0] + ", " + towns[1] + ", " + what + ")", Due.INDEX,
                            m -> m.between(towns[0], towns[1], what)));
                }
            }
        }
    }

    private static List<Thrown> thrownByNew() {
        return List.of(
                new Thrown("goBack(0) of an empty slot", Due.STATE, m -> m.goBack(0)),
                new Thrown("goBack(1) of an empty slot", Due.STATE, m -> m.goBack(1)),
                new Thrown("undo() of nothing", Due.STATE, CreaseMaps::undo));
    }

    private static List<Thrown> thrownByRich() {
        return List.of(new Thrown("goBack(1) of an empty slot", Due.STATE, m -> m.goBack(1)));
    }

    private static List<Thrown> thrownByFull() {
        return List.of(
                new Thrown("append(33) to 60 characters", Due.STATE, m -> m.append(33)),
                new Thrown("append(126) to 60 characters", Due.STATE, m -> m.append(126)));
    }
}
