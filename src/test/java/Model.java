import java.util.ArrayDeque;
import java.util.ArrayList;
import java.util.Arrays;
import java.util.HashSet;
import java.util.LinkedHashSet;
import java.util.List;
import java.util.Set;

/** The document once more, in strings and lists, to compare long runs of calls with. */
final class Model {
    private static final int[] LOWEST = {1, 1, 0, 1, 6};
    private static final int[] HIGHEST = {6, 9, 8, 6, 20};

    private String[] texts = {"", "", "", ""};
    private List<List<String>> pieces = List.of(List.of(), List.of(), List.of(), List.of());
    private List<Set<Integer>> forced = List.of(Set.of(), Set.of(), Set.of(), Set.of());
    private String[] slots = new String[60];
    private int[] settings = {3, 4, 0, 2, 10};
    private int came = 0;
    private int swept = 0;
    private String buffer = "";
    private ArrayDeque<Model> saved = new ArrayDeque<>();

    private Model snapshot() {
        Model copy = new Model();
        copy.restore(this);
        return copy;
    }

    private void restore(Model from) {
        texts = from.texts.clone();
        pieces = List.copyOf(from.pieces);
        forced = List.copyOf(from.forced);
        slots = from.slots.clone();
        settings = from.settings.clone();
        came = from.came;
        swept = from.swept;
    }

    private void save(Model state) {
        saved.addLast(state);
        if (saved.size() > 6) {
            saved.removeFirst();
        }
    }

    // ---- reading

    private static String read(String buffer) {
        StringBuilder signs = new StringBuilder();
        for (int i = 0; i < buffer.length(); i++) {
            char c = buffer.charAt(i);
            if ("abcdefgh".indexOf(c) >= 0) {
                signs.append(c);
            } else if ("23456789".indexOf(c) >= 0 && i > 0 && "abcdefgh".indexOf(buffer.charAt(i - 1)) >= 0) {
                signs.append(String.valueOf(buffer.charAt(i - 1)).repeat(c - '0' - 1));
            } else {
                return null;
            }
        }
        return signs.length() >= 1 && signs.length() <= 40 ? signs.toString() : null;
    }

    // ---- cutting

    private static int sum(String text, int place, int window) {
        String ahead = text.substring(Math.max(0, place + 1 - window), place + 1);
        int sum = 0;
        for (int i = 0; i < ahead.length(); i++) {
            sum += (ahead.charAt(i) - 'a' + 1) * (ahead.length() - i);
        }
        return sum;
    }

    private static List<String> cut(String text, int[] settings, Set<Integer> forced) {
        List<String> cut = new ArrayList<>();
        String piece = "";
        for (int place = 0; place < text.length(); place++) {
            piece += text.charAt(place);
            boolean bySum = piece.length() >= settings[3]
                    && sum(text, place, settings[0]) % settings[1] == settings[2];
            if (!bySum && piece.length() == settings[4]) {
                forced.add(cut.size());
            }
            if (bySum || piece.length() == settings[4] || place + 1 == text.length()) {
                cut.add(piece);
                piece = "";
            }
        }
        return cut;
    }

    // ---- the store

    private int owners(String piece) {
        int owners = 0;
        for (List<String> list : pieces) {
            for (String each : list) {
                owners += each.equals(piece) ? 1 : 0;
            }
        }
        return owners;
    }

    private int size() {
        return Arrays.stream(slots).filter(s -> s != null).mapToInt(String::length).sum();
    }

    private int removeUnowned(Set<String> but) {
        int removed = 0;
        for (int i = 0; i < 60; i++) {
            if (slots[i] != null && owners(slots[i]) == 0 && !but.contains(slots[i])) {
                slots[i] = null;
                removed++;
            }
        }
        swept += removed;
        return removed;
    }

    private Set<String> missing(List<String> cut) {
        Set<String> missing = new LinkedHashSet<>(cut);
        missing.removeAll(new HashSet<>(Arrays.asList(slots)));
        return missing;
    }

    private boolean fits(List<String> cut) {
        Set<String> missing = missing(cut);
        int free = (int) Arrays.stream(slots).filter(s -> s == null).count();
        return missing.size() <= free && missing.stream().mapToInt(String::length).sum() + size() <= 150;
    }

    private boolean become(int text, String signs) {
        Set<Integer> nowForced = new HashSet<>();
        List<String> cut = cut(signs, settings, nowForced);
        texts[text] = signs;
        List<List<String>> without = new ArrayList<>(pieces);
        without.set(text, List.of());
        pieces = without;
        if (!fits(cut)) {
            removeUnowned(new HashSet<>(cut));
        }
        if (!fits(cut)) {
            return false;
        }
        for (String piece : missing(cut)) {
            slots[Arrays.asList(slots).indexOf(null)] = piece;
            came++;
        }
        pieces = new ArrayList<>(pieces);
        pieces.set(text, cut);
        forced = new ArrayList<>(forced);
        forced.set(text, nowForced);
        return true;
    }

    private int change(int text, String signs) {
        Model before = snapshot();
        if (!become(text, signs)) {
            restore(before);
            throw new IllegalStateException();
        }
        save(before);
        return pieces.get(text).size();
    }

    // ---- the face

    private static void text(int text) {
        if (text < 0 || text > 3) {
            throw new IndexOutOfBoundsException();
        }
    }

    private static void argument(boolean fine) {
        if (!fine) {
            throw new IllegalArgumentException();
        }
    }

    private static void place(boolean fine) {
        if (!fine) {
            throw new IndexOutOfBoundsException();
        }
    }

    private static void state(boolean fine) {
        if (!fine) {
            throw new IllegalStateException();
        }
    }

    int put(int text) {
        text(text);
        argument(read(buffer) != null);
        int answer = change(text, read(buffer));
        buffer = "";
        return answer;
    }

    int insert(int text, int at) {
        text(text);
        place(at >= 0 && at <= texts[text].length());
        argument(read(buffer) != null);
        String signs = new StringBuilder(texts[text]).insert(at, read(buffer)).toString();
        state(signs.length() <= 40);
        int answer = change(text, signs);
        buffer = "";
        return answer;
    }

    int takeOut(int text, int at, int many) {
        text(text);
        place(at >= 0 && at < texts[text].length());
        argument(many >= 1 && many <= 40 && many <= texts[text].length() - at);
        return change(text, new StringBuilder(texts[text]).delete(at, at + many).toString());
    }

    int copy(int text, int other) {
        text(text);
        text(other);
        return change(text, texts[other]);
    }

    int rotate(int text, int many) {
        text(text);
        argument(many >= 1 && many <= 40 && many <= texts[text].length());
        return change(text, texts[text].substring(many) + texts[text].substring(0, many));
    }

    int drop(int text) {
        text(text);
        int had = texts[text].length();
        change(text, "");
        return had;
    }

    int sweep() {
        save(snapshot());
        return removeUnowned(Set.of());
    }

    int set(int setting, int value) {
        place(setting >= 0 && setting <= 4);
        argument(value >= LOWEST[setting] && value <= HIGHEST[setting]);
        save(snapshot());
        int previous = settings[setting];
        settings[setting] = value;
        return previous;
    }

    int append(int code) {
        argument(code >= 33 && code <= 126);
        state(buffer.length() < 60);
        buffer += (char) code;
        return buffer.length();
    }

    int clearBuffer() {
        int had = buffer.length();
        buffer = "";
        return had;
    }

    int firstError() {
        for (int i = 0; i < buffer.length(); i++) {
            if (read(buffer.substring(0, i + 1)) == null) {
                return i;
            }
        }
        return buffer.length();
    }

    int undo() {
        state(!saved.isEmpty());
        restore(saved.removeLast());
        return saved.size();
    }

    int sign(int text, int at, int what) {
        text(text);
        place(at >= 0 && at < texts[text].length());
        argument(what >= 0 && what <= 3);
        int number = 0;
        int end = pieces.get(text).get(0).length();
        while (end <= at) {
            number++;
            end += pieces.get(text).get(number).length();
        }
        int[] numbers = {texts[text].charAt(at) - 'a' + 1, sum(texts[text], at, settings[0]), number,
            end == at + 1 ? 1 : 0};
        return numbers[what];
    }

    int piece(int text, int number, int what) {
        text(text);
        argument(number >= 0 && what >= 0 && what <= 4);
        List<String> list = pieces.get(text);
        if (number >= list.size()) {
            return -1;
        }
        String piece = list.get(number);
        int others = 0;
        for (int i = 0; i < 4; i++) {
            others += i != text && pieces.get(i).contains(piece) ? 1 : 0;
        }
        int[] numbers = {Arrays.asList(slots).indexOf(piece), String.join("", list.subList(0, number)).length(),
            piece.length(), forced.get(text).contains(number) ? 1 : 0, others};
        return numbers[what];
    }

    int slot(int slot, int what) {
        place(slot >= 0 && slot < 60);
        argument(what >= 0 && what <= 4);
        String piece = slots[slot];
        if (piece == null) {
            return -1;
        }
        int mask = 0;
        for (int i = 0; i < 4; i++) {
            mask += pieces.get(i).contains(piece) ? 1 << i : 0;
        }
        int[] numbers = {piece.length(), owners(piece), piece.charAt(0) - 'a' + 1,
            piece.charAt(piece.length() - 1) - 'a' + 1, mask};
        return numbers[what];
    }

    int text(int text, int what) {
        text(text);
        argument(what >= 0 && what <= 5);
        int alone = 0;
        int longest = 0;
        for (String piece : pieces.get(text)) {
            boolean elsewhere = false;
            for (int i = 0; i < 4; i++) {
                elsewhere |= i != text && pieces.get(i).contains(piece);
            }
            alone += elsewhere ? 0 : piece.length();
            longest = Math.max(longest, piece.length());
        }
        int[] numbers = {texts[text].length(), pieces.get(text).size(), new HashSet<>(pieces.get(text)).size(),
            forced.get(text).size(), longest, alone};
        return numbers[what];
    }

    int common(int one, int other, int what) {
        text(one);
        text(other);
        argument(what >= 0 && what <= 2);
        Set<String> both = new HashSet<>(pieces.get(one));
        both.retainAll(pieces.get(other));
        int signs = pieces.get(one).stream().filter(both::contains).mapToInt(String::length).sum();
        int alike = 0;
        for (int i = 1; i <= Math.min(pieces.get(one).size(), pieces.get(other).size()); i++) {
            alike = pieces.get(one).subList(0, i).equals(pieces.get(other).subList(0, i)) ? i : alike;
        }
        int[] numbers = {both.size(), signs, alike};
        return numbers[what];
    }

    int count(int what) {
        argument(what >= 0 && what <= 9);
        int kept = 0;
        int unowned = 0;
        int unownedSize = 0;
        int most = 0;
        for (String piece : slots) {
            if (piece != null) {
                kept++;
                most = Math.max(most, owners(piece));
                unowned += owners(piece) == 0 ? 1 : 0;
                unownedSize += owners(piece) == 0 ? piece.length() : 0;
            }
        }
        int[] numbers = {String.join("", texts).length(), pieces.stream().mapToInt(List::size).sum(), kept, size(),
            unowned, unownedSize, most, came, swept, saved.size()};
        return numbers[what];
    }

    int setting(int setting) {
        place(setting >= 0 && setting <= 4);
        return settings[setting];
    }

    int ifPut(int text, int what) {
        text(text);
        argument(what >= 0 && what <= 3);
        String signs = read(buffer);
        if (signs == null) {
            return -1;
        }
        List<String> cut = cut(signs, settings, new HashSet<>());
        int[] numbers = {cut.size(), missing(cut).size(), missing(cut).stream().mapToInt(String::length).sum(),
            snapshot().become(text, signs) ? 0 : 1};
        return numbers[what];
    }

    int ifSet(int text, int setting, int value) {
        text(text);
        place(setting >= 0 && setting <= 4);
        argument(value >= LOWEST[setting] && value <= HIGHEST[setting]);
        int[] changed = settings.clone();
        changed[setting] = value;
        return cut(texts[text], changed, new HashSet<>()).size();
    }

    int bestDivisor() {
        int best = 0;
        int least = Integer.MAX_VALUE;
        for (int divisor = 9; divisor >= 1; divisor--) {
            int[] changed = settings.clone();
            changed[1] = divisor;
            Set<String> unlike = new HashSet<>();
            for (String text : texts) {
                unlike.addAll(cut(text, changed, new HashSet<>()));
            }
            int lengths = unlike.stream().mapToInt(String::length).sum();
            if (lengths < least) {
                least = lengths;
                best = divisor;
            }
        }
        return best;
    }

    double savedShare() {
        Set<String> unlike = new HashSet<>();
        pieces.forEach(unlike::addAll);
        double lengths = unlike.stream().mapToInt(String::length).sum();
        return count(0) == 0 ? 0.0 : 1.0 - lengths / count(0);
    }

    long digest() {
        List<Long> values = new ArrayList<>();
        for (int what = 0; what < 10; what++) {
            values.add((long) count(what));
        }
        for (int setting = 0; setting < 5; setting++) {
            values.add((long) setting(setting));
        }
        for (int text = 0; text < 4; text++) {
            textValues(text, values);
        }
        for (int slot = 0; slot < 60; slot++) {
            if (slots[slot] != null) {
                values.add((long) slot);
                for (int what = 0; what < 5; what++) {
                    values.add((long) slot(slot, what));
                }
            }
        }
        values.add((long) bestDivisor());
        values.add(Double.doubleToLongBits(savedShare()));
        values.add((long) buffer.length());
        buffer.chars().forEach(c -> values.add((long) c));
        long hash = 2663;
        for (long value : values) {
            hash = 31 * hash + value;
        }
        return hash;
    }

    private void textValues(int text, List<Long> values) {
        for (int what = 0; what < 6; what++) {
            values.add((long) text(text, what));
        }
        for (int at = 0; at < texts[text].length(); at++) {
            for (int what = 0; what < 4; what++) {
                values.add((long) sign(text, at, what));
            }
        }
        for (int number = 0; number < pieces.get(text).size(); number++) {
            for (int what = 0; what < 5; what++) {
                values.add((long) piece(text, number, what));
            }
        }
        for (int what = 0; what < 3; what++) {
            values.add((long) common(text, 0, what));
        }
        for (int what = 0; what < 4; what++) {
            values.add((long) ifPut(text, what));
        }
        values.add((long) ifSet(text, 1, 2));
    }
}
