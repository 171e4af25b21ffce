import java.util.function.Supplier;

/** Long runs of calls, the same ones in each run of the tests, each answer compared with the model's. */
public final class ModelTests {
    private static final int RUNS = 1200;
    private static final int CALLS = 512;

    private static final int[][] STYLES = {
        {3, 4, 0, 2, 10}, {1, 1, 0, 2, 20}, {2, 3, 1, 1, 6}, {3, 9, 8, 6, 20}, {4, 2, 1, 3, 7}, {6, 1, 8, 1, 6},
        {1, 8, 8, 1, 20}, {2, 5, 0, 6, 6}};

    private static long seed;
    private static CutStore x;
    private static Model model;

    private ModelTests() {
    }

    private static int next(int bound) {
        seed = seed * 6364136223846793005L + 1442695040888963407L;
        return (int) ((seed >>> 33) % bound);
    }

    private static int near(int lowest, int highest) {
        return lowest - 1 + next(highest - lowest + 3);
    }

    private static String outcome(Supplier<Object> call) {
        try {
            return String.valueOf(call.get());
        } catch (IndexOutOfBoundsException | IllegalArgumentException | IllegalStateException e) {
            return e.getClass().getSimpleName();
        }
    }

    private static boolean alike(String what, Supplier<Object> real, Supplier<Object> due) {
        String got = outcome(real);
        String want = outcome(due);
        if (got.equals(want)) {
            return true;
        }
        System.out.println(what + " answered " + got + ", the model's is " + want);
        Check.same(what, 0, 1);
        return false;
    }

    private static boolean number(String what, Supplier<Object> real, Supplier<Object> due) {
        return alike(what, real, due) && alike(what + ", then digest", () -> x.digest(), () -> model.digest());
    }

    private static int typed = 0;
    private static String word = "";

    /** Words come back, with small changes, so that texts share pieces; some are too long or wrong. */
    private static void chooseWord(int alphabet, int kind) {
        StringBuilder chosen = new StringBuilder(kind < 4 ? word : "");
        int many = kind == 10 ? 40 : 1 + next(kind < 7 ? 12 : 34);
        for (int i = 0; i < many && chosen.length() < 58; i++) {
            chosen.append((char) ('a' + next(alphabet)));
            if (kind < 10 && next(8) == 0) {
                chosen.append((char) ('2' + next(8)));
            }
        }
        if (next(15) == 0) {
            chosen.setCharAt(next(chosen.length()), (char) (33 + next(94)));
        }
        word = chosen.toString();
        typed = 0;
    }

    private static boolean typeWord(int run) {
        while (typed < word.length()) {
            char c = word.charAt(typed++);
            if (!alike("run " + run + ": append(" + c + ")", () -> x.append(c), () -> model.append(c))) {
                return false;
            }
        }
        return true;
    }

    private static boolean change(int run, int text) {
        int other = near(0, 3);
        int place = next(3) == 0 ? near(0, 40) : next(20);
        int many = next(3) == 0 ? near(1, 40) : 1 + next(6);
        String name = "run " + run + ": change of " + text + " with " + other + ", " + place + ", " + many;
        switch (next(12)) {
            case 0: case 1: case 2: case 3:
                return number(name + " put", () -> x.put(text), () -> model.put(text));
            case 4: case 5:
                return number(name + " insert", () -> x.insert(text, place), () -> model.insert(text, place));
            case 6: case 7:
                return number(name + " takeOut", () -> x.takeOut(text, place, many),
                        () -> model.takeOut(text, place, many));
            case 8:
                return number(name + " copy", () -> x.copy(text, other), () -> model.copy(text, other));
            case 9: case 10:
                return number(name + " rotate", () -> x.rotate(text, many), () -> model.rotate(text, many));
            default:
                return number(name + " drop", () -> x.drop(text), () -> model.drop(text));
        }
    }

    private static boolean otherCall(int run, int text) {
        int setting = near(0, 4);
        int value = next(22) - 1;
        String name = "run " + run + ": " + text + ", " + setting + ", " + value;
        switch (next(9)) {
            case 0:
                return number(name + " sweep", () -> x.sweep(), () -> model.sweep());
            case 1: case 2:
                return number(name + " undo", () -> x.undo(), () -> model.undo());
            case 3:
                return number(name + " set", () -> x.set(setting, value), () -> model.set(setting, value));
            case 4:
                return number(name + " clearBuffer", () -> x.clearBuffer(), () -> model.clearBuffer());
            case 5:
                int code = next(140) - 5;
                return number(name + " append", () -> x.append(code), () -> model.append(code));
            case 6:
                return number(name + " ifSet", () -> x.ifSet(text, setting, value),
                        () -> model.ifSet(text, setting, value));
            case 7:
                return number(name + " savedShare", () -> x.savedShare(), () -> model.savedShare());
            default:
                return number(name + " firstError", () -> x.firstError(), () -> model.firstError());
        }
    }

    private static boolean look(int run, int text) {
        int other = near(0, 3);
        int place = near(0, 41);
        int what = near(0, 5);
        String name = "run " + run + ": look " + text + ", " + other + ", " + place + ", " + what;
        switch (next(9)) {
            case 0:
                return alike(name + " sign", () -> x.sign(text, place, what), () -> model.sign(text, place, what));
            case 1:
                return alike(name + " piece", () -> x.piece(text, place, what), () -> model.piece(text, place, what));
            case 2:
                int slot = near(0, 60);
                return alike(name + " slot", () -> x.slot(slot, what), () -> model.slot(slot, what));
            case 3:
                return alike(name + " text", () -> x.text(text, what), () -> model.text(text, what));
            case 4:
                return alike(name + " common", () -> x.common(text, other, what),
                        () -> model.common(text, other, what));
            case 5:
                int number = near(0, 9);
                return alike(name + " count", () -> x.count(number), () -> model.count(number));
            case 6:
                return alike(name + " setting", () -> x.setting(what), () -> model.setting(what));
            case 7:
                return alike(name + " ifPut", () -> x.ifPut(text, what), () -> model.ifPut(text, what));
            default:
                return alike(name + " bestDivisor", () -> x.bestDivisor(), () -> model.bestDivisor());
        }
    }

    private static int applyStyle() {
        int[] style = STYLES[next(STYLES.length)];
        for (int setting = 0; setting < 5; setting++) {
            x.set(setting, style[setting]);
            model.set(setting, style[setting]);
        }
        return 5;
    }

    /** Texts as long as can be, so that the store is nearly full, and pieces are many. */
    private static int fill(int run) {
        for (int i = 0; i < 4; i++) {
            int text = i;
            chooseWord(8, 10);
            typeWord(run);
            number("run " + run + ": put(" + text + ")", () -> x.put(text), () -> model.put(text));
            alike("run " + run + ": bestDivisor", () -> x.bestDivisor(), () -> model.bestDivisor());
            x.clearBuffer();
            model.clearBuffer();
        }
        return 4 * 44;
    }

    private static void run(int run) {
        x = new CutStore();
        model = new Model();
        word = "";
        int alphabet = 1 + next(8);
        int calls = next(4) == 0 ? 0 : applyStyle();
        calls += run % 5 == 0 ? fill(run) : 0;
        boolean fine = true;
        while (fine && calls < CALLS - 70) {
            int text = next(20) == 0 ? near(0, 3) : next(4);
            int kind = next(10);
            if (kind < 4) {
                x.clearBuffer();
                model.clearBuffer();
                chooseWord(alphabet, next(11));
                fine = typeWord(run);
                calls += 1 + word.length();
            }
            fine = fine && (kind < 7 ? change(run, text) : kind < 8 ? otherCall(run, text) : look(run, text));
            calls += 2;
        }
        Check.same("run " + run, fine ? 1 : 0, 1);
    }

    public static void main(String[] args) {
        seed = 20261119L;
        for (int run = 1; run <= RUNS; run++) {
            run(run);
        }
        Check.finish("ModelTests");
    }
}
