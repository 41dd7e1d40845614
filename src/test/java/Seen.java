import java.util.LinkedHashMap;
import java.util.Map;
import java.util.StringJoiner;
import java.util.function.Consumer;
import java.util.function.Supplier;

/** What an object shows, so that two of them can be compared; each of these takes less than 200 calls. */
final class Seen {

    private Seen() {
    }

    /** What the looks tell, each by the words of its call. */
    static Map<String, Long> looks(CreaseMaps maps) {
        Map<String, Long> seen = new LinkedHashMap<>();
        for (int what = 0; what <= 10; what++) {
            seen.put("count(" + what + ")", (long) maps.count(what));
        }
        for (int panel = 0; panel < 10; panel++) {
            for (int what = 0; what <= 2; what++) {
                seen.put("panelOf(" + panel + ", " + what + ")", (long) maps.panelOf(panel, what));
            }
        }
        for (int crease = 0; crease < 9; crease++) {
            for (int what = 0; what <= 3; what++) {
                seen.put("creaseOf(" + crease + ", " + what + ")", (long) maps.creaseOf(crease, what));
            }
        }
        for (int town = 0; town < 6; town++) {
            seen.put("town(" + town + ")", (long) maps.town(town));
            for (int other = town + 1; other < 6; other++) {
                for (int what = 0; what <= 3; what++) {
                    String call = "between(" + town + ", " + other + ", " + what + ")";
                    seen.put(call, (long) maps.between(town, other, what));
                }
            }
        }
        seen.put("bestQuestion()", (long) maps.bestQuestion());
        seen.put("folding(0)", (long) maps.folding(0));
        seen.put("folding(1)", (long) maps.folding(1));
        seen.put("weakest()", (long) maps.weakest());
        seen.put("sureShare()", Double.doubleToLongBits(maps.sureShare()));
        return seen;
    }

    /** Which looks a call changes, and how; of two objects that are made alike, as looking takes many calls. */
    static String changes(Supplier<CreaseMaps> made, Consumer<CreaseMaps> call) {
        CreaseMaps later = made.get();
        call.accept(later);
        return changes(looks(made.get()), looks(later));
    }

    static String changes(Map<String, Long> before, Map<String, Long> after) {
        StringJoiner text = new StringJoiner(", ");
        for (String call : before.keySet()) {
            if (!before.get(call).equals(after.get(call))) {
                text.add(call + " " + before.get(call) + ">" + after.get(call));
            }
        }
        return text.toString();
    }

    /** All, also the buffer, each saved state and both slots; the object is used up by it. */
    static String whole(CreaseMaps maps) {
        StringBuilder text = new StringBuilder();
        text.append(maps.digest()).append(", buffer ").append(maps.firstError());
        text.append(" of ").append(maps.clearBuffer());
        for (int i = 0; i < 20 && maps.count(10) > 0; i++) {
            text.append(", saved ").append(maps.undo()).append(": ").append(maps.digest());
        }
        for (int slot = 0; slot < 2; slot++) {
            text.append(", slot ").append(slot).append(": ").append(slotOf(maps, slot));
        }
        return text.toString();
    }

    private static String slotOf(CreaseMaps maps, int slot) {
        try {
            return maps.goBack(slot) + " " + maps.digest();
        } catch (IllegalStateException e) {
            return "empty";
        }
    }
}
