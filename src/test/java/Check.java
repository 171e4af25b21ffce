/** What the tests share: checks that count themselves, and ways to bring an object where a test wants it. */
final class Check {
    static final Class<? extends RuntimeException> PLACE = IndexOutOfBoundsException.class;
    static final Class<? extends RuntimeException> ARGUMENT = IllegalArgumentException.class;
    static final Class<? extends RuntimeException> STATE = IllegalStateException.class;

    private static int done = 0;
    private static int wrong = 0;
    private static String about = "";

    interface Call {
        long answer();
    }

    interface CallOf {
        long answer(int argument);
    }

    interface CallOn {
        long answer(CutStore x);
    }

    private Check() {
    }

    /** What the next checks are about; it stands ahead of each message. */
    static void about(String what) {
        about = what;
    }

    static int done() {
        return done;
    }

    private static void count(boolean right, String message) {
        done++;
        if (!right) {
            wrong++;
            System.out.println(about + message);
        }
    }

    static void same(String what, long got, long want) {
        count(got == want, what + " answered " + got + ", due is " + want);
    }

    static void same(String what, double got, double want) {
        same(what + " (as bits)", Double.doubleToLongBits(got), Double.doubleToLongBits(want));
    }

    /** The call throws just this exception, and leaves the whole state as it was. */
    static void refuses(CutStore x, String what, Class<? extends RuntimeException> kind, Call call) {
        long before = x.digest();
        Class<?> got = null;
        try {
            call.answer();
        } catch (RuntimeException e) {
            got = e.getClass();
        }
        count(got == kind, what + " threw " + got + ", due is " + kind);
        same(what + ": the state behind the exception", x.digest(), before);
    }

    /** The call throws this exception for each of the arguments. */
    static void refusesEach(CutStore x, String what, Class<? extends RuntimeException> kind, CallOf call,
            int... arguments) {
        for (int argument : arguments) {
            refuses(x, what + " " + argument, kind, () -> call.answer(argument));
        }
    }

    /** The call throws this exception for each of the arguments, and for the least and the greatest int. */
    static void refusesBeyond(CutStore x, String what, Class<? extends RuntimeException> kind, CallOf call,
            int... arguments) {
        refusesEach(x, what, kind, call, arguments);
        refusesEach(x, what, kind, call, Integer.MIN_VALUE, Integer.MAX_VALUE);
    }

    /** The call saves one of less than six states, and undo brings back what was before the characters were typed. */
    static void undoes(CutStore x, String what, String characters, CallOn call) {
        long before = x.digest();
        int saved = x.count(9);
        type(x, characters);
        call.answer(x);
        same(what + " saves, which makes", x.count(9), saved + 1);
        same(what + ", undone, leaves", x.undo(), saved);
        same(what + ", undone: the state", x.digest(), before);
    }

    static void type(CutStore x, String characters) {
        for (int i = 0; i < characters.length(); i++) {
            x.append(characters.charAt(i));
        }
    }

    static int put(CutStore x, int text, String characters) {
        type(x, characters);
        return x.put(text);
    }

    /** From now on a piece ends as soon as it has so many signs (by its sum, so that it is not forced). */
    static void cutEvenly(CutStore x, int many) {
        x.set(1, 1);
        x.set(2, 0);
        x.set(3, many);
    }

    /** From now on no sum ends a piece, so that all pieces get so many signs. */
    static void cutByForce(CutStore x, int many) {
        x.set(1, 1);
        x.set(2, 8);
        x.set(4, many);
    }

    static String signs(CutStore x, int text) {
        StringBuilder signs = new StringBuilder();
        for (int place = 0; place < x.text(text, 0); place++) {
            signs.append((char) ('a' - 1 + x.sign(text, place, 0)));
        }
        return signs.toString();
    }

    static String pieces(CutStore x, int text) {
        StringBuilder pieces = new StringBuilder();
        String signs = signs(x, text);
        for (int piece = 0; piece < x.text(text, 1); piece++) {
            int first = x.piece(text, piece, 1);
            pieces.append(piece == 0 ? "" : " ").append(signs, first, first + x.piece(text, piece, 2));
        }
        return pieces.toString();
    }

    static void hasPieces(String what, CutStore x, int text, String want) {
        String got = pieces(x, text);
        count(got.equals(want), what + ": the pieces are '" + got + "', due are '" + want + "'");
    }

    static void finish(String name) {
        System.out.println(name + ": " + done + " checks, " + wrong + " wrong");
        if (wrong != 0 || done == 0) {
            System.exit(1);
        }
    }
}
