/** The sentences of promises 10 to 13: the buffer, and undo. */
final class BufferSentences {

    private BufferSentences() {
    }

    static void tests() {
        append();
        clearBuffer();
        firstError();
        undo();
    }

    private static CutStore with(String characters) {
        CutStore x = new CutStore();
        Check.type(x, characters);
        return x;
    }

    private static void append() {
        Sentences.part("Promise 10: append");
        Sentences.holds("Appends a character to the buffer.", () -> {
            CutStore x = with("bad");
            Check.put(x, 0, "2");
            Check.same("behind the others", x.sign(0, 0, 0) * 1000 + x.sign(0, 1, 0) * 100 + x.sign(0, 2, 0) * 10
                    + x.sign(0, 3, 0), 2144);
            Check.same("not undoable", x.count(9), 1);
            Check.same("another character is another state", with("ab").digest() == with("ac").digest() ? 1 : 0, 0);
        });
        Sentences.holds("`code`: the character code, 33 to 126", () -> {
            CutStore x = new CutStore();
            for (int code = 33; code <= 92; code++) {
                Check.same("code " + code, x.append(code), code - 32);
            }
            x.clearBuffer();
            for (int code = 93; code <= 126; code++) {
                Check.same("code " + code, x.append(code), code - 92);
            }
        });
        Sentences.holds("Returns the new length of the buffer.", () -> {
            CutStore x = new CutStore();
            Check.same("the first", x.append('a'), 1);
            Check.same("the second", x.append('2'), 2);
            x.put(0);
            Check.same("behind a put", x.append('!'), 1);
            x.undo();
            Check.same("behind an undo", x.append('!'), 2);
            x.clearBuffer();
            Check.same("behind a clear", x.append('!'), 1);
            for (int length = 2; length <= 59; length++) {
                x.append('!');
            }
            Check.same("the last", x.append('!'), 60);
        });
        Sentences.holds("Throws `IllegalArgumentException` if code is not 33 to 126", () -> {
            CutStore x = with("ab");
            Check.refusesBeyond(x, "code", Check.ARGUMENT, code -> x.append(code), 32, 127, 0, -1, 'a' + 256, 'a' + 65536);
        });
        Sentences.holds("Throws `IllegalStateException` if the buffer has 60 characters", () -> {
            CutStore x = with("ab".repeat(29) + "a");
            Check.same("at 59", x.append('h'), 60);
            Check.refusesEach(x, "code", Check.STATE, code -> x.append(code), 'a', '2', 33, 126);
        });
    }

    private static void clearBuffer() {
        Sentences.part("Promise 11: clearBuffer");
        Sentences.holds("Clears the buffer.", () -> {
            CutStore x = with("abc!");
            x.clearBuffer();
            Check.same("as a new one", x.digest(), new CutStore().digest());
            Check.refuses(x, "nothing to put", Check.ARGUMENT, () -> x.put(0));
            Check.put(x, 0, "h");
            Check.hasPieces("nothing is left of it", x, 0, "h");
            Check.same("not undoable", x.count(9), 1);
        });
        Sentences.holds("Returns the length that it had.", () -> {
            CutStore x = new CutStore();
            Check.same("empty", x.clearBuffer(), 0);
            Check.type(x, "a");
            Check.same("one", x.clearBuffer(), 1);
            Check.same("cleared", x.clearBuffer(), 0);
            Check.type(x, "a9".repeat(30));
            Check.same("full", x.clearBuffer(), 60);
        });
    }

    private static void firstError() {
        Sentences.part("Promise 12: firstError");
        Sentences.holds("Finds the first syntax error of the buffer.", () -> {
            Check.same("the first of several", with("ab22!i").firstError(), 3);
            Check.same("what is behind it does not matter", with("a!bcd").firstError(), 1);
            CutStore x = with("a!");
            long before = x.digest();
            x.firstError();
            Check.same("nothing is changed", x.digest(), before);
        });
        Sentences.holds("Returns the index of the first character that is a syntax error; the length of the buffer if"
                + " there is none.", () -> {
                    Check.same("an empty buffer", new CutStore().firstError(), 0);
                    Check.same("the first character", with("!").firstError(), 0);
                    Check.same("none", with("a2b").firstError(), 3);
                    Check.same("the last character", with("a2b1").firstError(), 3);
                    Check.same("forty signs", with("a9a9a9a9a4").firstError(), 10);
                    Check.same("one more by a letter", with("a9a9a9a9a4a").firstError(), 10);
                    Check.same("one more by a number", with("a9a9a9a9a5").firstError(), 9);
                    Check.same("one more by a number, behind others", with("aaaa9a9a9a9a2").firstError(), 12);
                    Check.same("forty letters", with("h".repeat(40)).firstError(), 40);
                    Check.same("one letter more", with("h".repeat(41)).firstError(), 40);
                    Check.same("a full buffer", with("h".repeat(60)).firstError(), 40);
                });
    }

    private static void undo() {
        Sentences.part("Promise 13: undo");
        Sentences.holds("Restores the latest saved state, and drops it.", () -> {
            CutStore x = new CutStore();
            long first = x.digest();
            Check.put(x, 0, "abcdef");
            long second = x.digest();
            x.drop(0);
            long third = x.digest();
            x.sweep();
            x.undo();
            Check.same("the latest", x.digest(), third);
            x.undo();
            Check.same("the one before", x.digest(), second);
            x.set(0, 1);
            x.undo();
            Check.same("the same one again", x.digest(), second);
            x.undo();
            Check.same("the first", x.digest(), first);
        });
        Sentences.holds("Returns how many saved states are left.", () -> {
            CutStore x = new CutStore();
            x.sweep();
            Check.same("none", x.undo(), 0);
            for (int calls = 1; calls <= 6; calls++) {
                x.sweep();
            }
            Check.same("five", x.undo(), 5);
            x.sweep();
            x.sweep();
            Check.same("five behind the seventh", x.undo(), 5);
            Check.same("four", x.undo(), 4);
            Check.same("as counted", x.count(9), 4);
        });
        Sentences.holds("Throws `IllegalStateException` if there is none", () -> {
            CutStore x = with("ab");
            Check.refuses(x, "of a new object", Check.STATE, () -> x.undo());
            x.put(0);
            x.undo();
            Check.refuses(x, "behind the last one", Check.STATE, () -> x.undo());
            for (int calls = 1; calls <= 8; calls++) {
                x.sweep();
            }
            for (int left = 5; left >= 0; left--) {
                Check.same("left", x.undo(), left);
            }
            Check.refuses(x, "behind six", Check.STATE, () -> x.undo());
        });
    }
}
