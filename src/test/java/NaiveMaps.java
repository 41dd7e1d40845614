import java.util.ArrayDeque;
import java.util.ArrayList;
import java.util.Arrays;
import java.util.List;
import java.util.TreeMap;

/** The document once more, written without a look at CreaseMaps and with the whole Java library: the tests' measure. */
final class NaiveMaps {

    private static final class Kept implements Cloneable {
        boolean[] folded = new boolean[9];
        boolean[] torn = new boolean[9];
        int[] wear = new int[9];
        int[] towns = {0, 1, 2, 3, 4, 5};
        TreeMap<String, Boolean> answers = new TreeMap<>();
        int[] counts = new int[4];

        Kept copy() {
            Kept k = new Kept();
            k.folded = folded.clone();
            k.torn = torn.clone();
            k.wear = wear.clone();
            k.towns = towns.clone();
            k.answers = new TreeMap<>(answers);
            k.counts = counts.clone();
            return k;
        }
    }

    private Kept s = new Kept();
    private final Kept[] slots = new Kept[2];
    private final ArrayDeque<Kept> saved = new ArrayDeque<>();
    private String buffer = "";

    private void save() {
        saved.addLast(s.copy());
        if (saved.size() > 6) {
            saved.removeFirst();
        }
    }

    private static void index(int value, int below) {
        if (value < 0 || value >= below) {
            throw new IndexOutOfBoundsException();
        }
    }

    private static void range(int value, int least, int most) {
        if (value < least || value > most) {
            throw new IllegalArgumentException();
        }
    }

    private static int[] places(boolean[] folded) {
        int[] places = new int[10];
        boolean right = true;
        for (int k = 0; k < 9; k++) {
            if (folded[k]) {
                places[k + 1] = places[k];
                right = !right;
            } else {
                places[k + 1] = right ? places[k] + 1 : places[k] - 1;
            }
        }
        return places;
    }

    private static boolean[] creases(int mask) {
        boolean[] folded = new boolean[9];
        for (int k = 0; k < 9; k++) {
            folded[k] = (mask & (1 << k)) != 0;
        }
        return folded;
    }

    private int mask() {
        int mask = 0;
        for (int k = 0; k < 9; k++) {
            mask += s.folded[k] ? 1 << k : 0;
        }
        return mask;
    }

    private static String pair(int a, int b) {
        return a < b ? a + "-" + b : b + "-" + a;
    }

    private boolean touch(int[] places, int town, int other) {
        return places[s.towns[town]] == places[s.towns[other]];
    }

    private List<Integer> fitting() {
        List<Integer> fitting = new ArrayList<>();
        for (int mask = 0; mask < 512; mask++) {
            boolean[] folded = creases(mask);
            int[] places = places(folded);
            boolean fits = true;
            for (int k = 0; k < 9; k++) {
                fits &= !(folded[k] && s.torn[k]);
            }
            for (String key : s.answers.keySet()) {
                String[] panels = key.split("-");
                boolean same = places[Integer.parseInt(panels[0])] == places[Integer.parseInt(panels[1])];
                fits &= same == s.answers.get(key);
            }
            if (fits) {
                fitting.add(mask);
            }
        }
        return fitting;
    }

    private int ifMeeting(int town, int other) {
        int found = 0;
        for (int mask : fitting()) {
            found += touch(places(creases(mask)), town, other) ? 1 : 0;
        }
        return found;
    }

    int fold(int crease) {
        index(crease, 9);
        save();
        if (s.torn[crease]) {
            s.counts[3]++;
            return -1;
        }
        s.folded[crease] = !s.folded[crease];
        s.wear[crease]++;
        s.answers.clear();
        return s.folded[crease] ? 1 : 0;
    }

    int move(int town, int panel) {
        index(town, 6);
        range(panel, 0, 9);
        save();
        int before = s.towns[town];
        s.towns[town] = panel;
        s.answers.clear();
        return before;
    }

    int pull(int strength) {
        range(strength, 1, 9);
        save();
        int tears = 0;
        for (int k = 0; k < 9; k++) {
            if (s.folded[k] && s.wear[k] >= 10 - strength) {
                s.folded[k] = false;
                s.torn[k] = true;
                tears++;
            }
        }
        if (tears > 0) {
            s.answers.clear();
        }
        return tears;
    }

    int renew() {
        save();
        int torn = count(1);
        s.folded = new boolean[9];
        s.torn = new boolean[9];
        s.wear = new int[9];
        s.answers.clear();
        return torn;
    }

    int ask(int town, int other) {
        index(town, 6);
        index(other, 6);
        if (town == other) {
            throw new IllegalArgumentException();
        }
        save();
        String key = pair(s.towns[town], s.towns[other]);
        if (s.answers.size() == 12 || s.answers.containsKey(key)) {
            s.counts[3]++;
            return -1;
        }
        boolean touch = touch(places(s.folded), town, other);
        s.answers.put(key, touch);
        s.counts[0]++;
        return touch ? 1 : 0;
    }

    int guess(int folding) {
        range(folding, 0, 511);
        save();
        s.counts[1]++;
        int alike = 0;
        for (int k = 0; k < 9; k++) {
            alike += creases(folding)[k] == s.folded[k] ? 1 : 0;
        }
        if (alike == 9) {
            s.counts[2]++;
            return 10;
        }
        return alike;
    }

    int forget() {
        save();
        int kept = s.answers.size();
        s.answers.clear();
        return kept;
    }

    int append(int code) {
        range(code, 33, 126);
        if (buffer.length() == 60) {
            throw new IllegalStateException();
        }
        buffer += (char) code;
        return buffer.length();
    }

    int clearBuffer() {
        int length = buffer.length();
        buffer = "";
        return length;
    }

    private static boolean begins(String text) {
        boolean letters = text.matches("[a-f|^]*") && text.replaceAll("[a-f]", "").length() <= 9;
        for (char c = 'a'; c <= 'f'; c++) {
            letters &= text.indexOf(c) == text.lastIndexOf(c);
        }
        return letters;
    }

    int firstError() {
        for (int i = 0; i < buffer.length(); i++) {
            if (!begins(buffer.substring(0, i + 1))) {
                return i;
            }
        }
        return buffer.length();
    }

    int load() {
        if (!begins(buffer) || buffer.replaceAll("[a-f]", "").length() != 9) {
            throw new IllegalArgumentException();
        }
        save();
        s.torn = new boolean[9];
        s.wear = new int[9];
        s.folded = creases(0);
        s.towns = new int[6];
        s.answers.clear();
        String[] panels = buffer.split("[|^]", -1);
        String signs = buffer.replaceAll("[a-f]", "");
        for (int k = 0; k < 9; k++) {
            s.folded[k] = signs.charAt(k) == '^';
        }
        for (int p = 0; p < 10; p++) {
            for (char c : panels[p].toCharArray()) {
                s.towns[c - 'a'] = p;
            }
        }
        buffer = "";
        return count(0);
    }

    int keep(int slot) {
        range(slot, 0, 1);
        slots[slot] = s.copy();
        return s.answers.size();
    }

    int goBack(int slot) {
        range(slot, 0, 1);
        if (slots[slot] == null) {
            throw new IllegalStateException();
        }
        save();
        s = slots[slot].copy();
        return s.answers.size();
    }

    int undo() {
        if (saved.isEmpty()) {
            throw new IllegalStateException();
        }
        s = saved.removeLast();
        return saved.size();
    }

    int panelOf(int panel, int what) {
        index(panel, 10);
        range(what, 0, 2);
        int[] places = places(s.folded);
        if (what == 0) {
            return places[panel] + 100;
        }
        int answer = 0;
        if (what == 1) {
            for (int t = 0; t < 6; t++) {
                answer += s.towns[t] == panel ? 1 << t : 0;
            }
            return answer;
        }
        for (int place : places) {
            answer += place == places[panel] ? 1 : 0;
        }
        return answer;
    }

    int creaseOf(int crease, int what) {
        index(crease, 9);
        range(what, 0, 3);
        switch (what) {
            case 0: return s.folded[crease] ? 1 : 0;
            case 1: return s.wear[crease];
            case 2: return s.torn[crease] ? 1 : 0;
            default:
                List<Integer> fitting = fitting();
                boolean all = fitting.stream().allMatch(m -> creases(m)[crease]);
                boolean none = fitting.stream().noneMatch(m -> creases(m)[crease]);
                return all ? 1 : none ? 0 : -1;
        }
    }

    int between(int town, int other, int what) {
        index(town, 6);
        index(other, 6);
        range(what, 0, 3);
        int[] places = places(s.folded);
        switch (what) {
            case 0: return Math.abs(s.towns[town] - s.towns[other]);
            case 1: return Math.abs(places[s.towns[town]] - places[s.towns[other]]);
            case 2: return touch(places, town, other) ? 1 : 0;
            default:
                Boolean answer = s.answers.get(pair(s.towns[town], s.towns[other]));
                return answer == null ? -1 : answer ? 1 : 0;
        }
    }

    int town(int town) {
        index(town, 6);
        return s.towns[town];
    }

    int count(int what) {
        range(what, 0, 10);
        int answer = 0;
        int[] places = places(s.folded);
        switch (what) {
            case 0: return Integer.bitCount(mask());
            case 1:
                for (boolean torn : s.torn) {
                    answer += torn ? 1 : 0;
                }
                return answer;
            case 2: return Arrays.stream(places).max().getAsInt() - Arrays.stream(places).min().getAsInt() + 1;
            case 3: return s.answers.size();
            case 4:
            case 5: return fitting().size();
            case 10: return saved.size();
            default: return s.counts[what - 6];
        }
    }

    int ifTouching(int town, int other) {
        index(town, 6);
        index(other, 6);
        if (town == other) {
            throw new IllegalArgumentException();
        }
        return ifMeeting(town, other);
    }

    int bestQuestion() {
        int best = -1;
        int bestWorst = Integer.MAX_VALUE;
        int all = fitting().size();
        for (int t = 0; t < 6; t++) {
            for (int u = t + 1; u < 6; u++) {
                if (s.towns[t] == s.towns[u] || between(t, u, 3) != -1) {
                    continue;
                }
                int touching = ifMeeting(t, u);
                int worst = Math.max(touching, all - touching);
                if (worst < bestWorst) {
                    bestWorst = worst;
                    best = t * 10 + u;
                }
            }
        }
        return best;
    }

    int folding(int rank) {
        if (rank < 0) {
            throw new IllegalArgumentException();
        }
        List<Integer> fitting = fitting();
        return rank < fitting.size() ? fitting.get(rank) : -1;
    }

    int weakest() {
        int best = -1;
        for (int k = 8; k >= 0; k--) {
            if (s.folded[k] && (best == -1 || s.wear[k] >= s.wear[best])) {
                best = k;
            }
        }
        return best;
    }

    double sureShare() {
        int fits = fitting().size();
        return fits == 0 ? 0.0 : 1.0 / fits;
    }

    long digest() {
        List<Long> values = new ArrayList<>();
        for (int w = 0; w <= 10; w++) {
            values.add((long) count(w));
        }
        for (int p = 0; p < 10; p++) {
            for (int w = 0; w < 3; w++) {
                values.add((long) panelOf(p, w));
            }
        }
        for (int k = 0; k < 9; k++) {
            for (int w = 0; w < 4; w++) {
                values.add((long) creaseOf(k, w));
            }
        }
        for (int t = 0; t < 6; t++) {
            values.add((long) town(t));
            for (int u = t + 1; u < 6; u++) {
                for (int w = 0; w < 4; w++) {
                    values.add((long) between(t, u, w));
                }
            }
        }
        values.add((long) bestQuestion());
        for (int r = 0; r < 4; r++) {
            values.add((long) folding(r));
        }
        values.add((long) weakest());
        values.add(Double.doubleToLongBits(sureShare()));
        for (Kept slot : slots) {
            values.add(slot == null ? 0L : 1L);
        }
        values.add((long) buffer.length());
        for (char c : buffer.toCharArray()) {
            values.add((long) c);
        }
        long hash = 3697;
        for (long v : values) {
            hash = 31 * hash + v;
        }
        return hash;
    }
}
