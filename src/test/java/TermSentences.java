import java.lang.reflect.Method;
import java.lang.reflect.Modifier;

/** The sentences of the document's terms. */
final class TermSentences {
    private TermSentences() {
    }

    static void tests() {
        lifeOfAnObject();
        textsAndPlaces();
        sums();
        cuts();
        cutAnew();
        settings();
        inputText();
        undo();
        exceptions();
    }

    private static void lifeOfAnObject() {
        Sentences.part("What it is");
        Sentences.holds("An object is used for at most 512 calls after it has been made; what later calls answer is free.",
                () -> {
                    CutStore x = new CutStore();
                    for (int call = 1; call <= 510; call++) {
                        x.set(1, call % 9 + 1);
                    }
                    Check.same("call 511", x.undo(), 5);
                    Check.same("call 512", x.setting(1), 509 % 9 + 1);
                });
    }

    private static void textsAndPlaces() {
        Sentences.part("Terms");
        Sentences.holds("All numbers are integers, but for a share.", () -> {
            for (Method method : CutStore.class.getDeclaredMethods()) {
                boolean open = Modifier.isPublic(method.getModifiers());
                boolean share = method.getReturnType() == double.class;
                Check.same(method.getName() + " tells a share", open && share ? 1 : 0,
                        method.getName().equals("savedShare") ? 1 : 0);
            }
        });
        Sentences.holds("There are 4 texts, numbered from 0, each of 0 to 40 signs, at first empty; signs are \"a\" to"
                + " \"h\", with the values 1 to 8.", () -> {
                    fourTexts();
                    nothingToForty();
                    signsAndValues();
                });
        Sentences.holds("Places are numbered from 0.", () -> {
            CutStore x = new CutStore();
            Check.put(x, 0, "gh");
            Check.same("the first place", x.sign(0, 0, 0), 7);
            Check.same("the last place", x.sign(0, 1, 0), 8);
            Check.refusesBeyond(x, "place", Check.PLACE, place -> x.sign(0, place, 0), -1, 2);
        });
    }

    private static void fourTexts() {
        CutStore x = new CutStore();
        for (int text = 0; text <= 3; text++) {
            Check.same("signs at first", x.text(text, 0), 0);
            Check.same("a text of its own", Check.put(x, text, "a" + (text + 2)), 1);
        }
        for (int text = 0; text <= 3; text++) {
            Check.same("signs of text " + text, x.text(text, 0), text + 2);
        }
        Check.refusesBeyond(x, "text", Check.PLACE, text -> x.text(text, 0), -1, 4);
    }

    private static void nothingToForty() {
        CutStore x = new CutStore();
        Check.put(x, 0, Examples.FORTY);
        Check.same("forty signs", x.text(0, 0), 40);
        Check.type(x, "h");
        Check.refuses(x, "the sign 41", Check.STATE, () -> x.insert(0, 40));
        x.clearBuffer();
        Check.type(x, Examples.FORTY + "a");
        Check.refuses(x, "put of 41", Check.ARGUMENT, () -> x.put(0));
        Check.same("pieces of no signs", x.takeOut(0, 0, 40), 0);
        Check.same("no signs", x.text(0, 0), 0);
    }

    private static void signsAndValues() {
        CutStore x = new CutStore();
        Check.put(x, 3, "abcdefgh");
        for (int place = 0; place <= 7; place++) {
            Check.same("value " + place, x.sign(3, place, 0), place + 1);
        }
        for (char other : "`iAHz".toCharArray()) {
            x.append(other);
            Check.refuses(x, "the sign " + other, Check.ARGUMENT, () -> x.put(0));
            x.clearBuffer();
        }
    }

    private static void sums() {
        Sentences.holds("The sum at a place is the sum of the values of the sign there and of those ahead of it, of"
                + " setting 0 signs together (or of as many as there are), the sign at the place times 1, the one ahead"
                + " of it times 2, the next one times 3, and so on.", () -> {
                    sumsAre(1, 1, 2, 3, 4, 5, 6, 7, 8);
                    sumsAre(2, 1, 2 + 2, 3 + 4, 4 + 6, 5 + 8, 6 + 10, 7 + 12, 8 + 14);
                    sumsAre(3, 1, 4, 3 + 4 + 3, 4 + 6 + 6, 5 + 8 + 9, 6 + 10 + 12, 7 + 12 + 15, 8 + 14 + 18);
                    sumsAre(5, 1, 4, 10, 4 + 6 + 6 + 4, 5 + 8 + 9 + 8 + 5, 6 + 10 + 12 + 12 + 10,
                            7 + 12 + 15 + 16 + 15, 8 + 14 + 18 + 20 + 20);
                    sumsAre(6, 1, 4, 10, 20, 35, 6 + 10 + 12 + 12 + 10 + 6, 7 + 12 + 15 + 16 + 15 + 12,
                            8 + 14 + 18 + 20 + 20 + 18);
                    CutStore x = new CutStore();
                    x.set(0, 6);
                    Check.put(x, 0, "h9");
                    Check.same("the greatest sum", x.sign(0, 8, 1), 8 * (1 + 2 + 3 + 4 + 5 + 6));
                });
    }

    private static void sumsAre(int together, int... sums) {
        CutStore x = new CutStore();
        x.set(0, together);
        Check.put(x, 0, "abcdefgh");
        for (int place = 0; place <= 7; place++) {
            Check.same(together + " together, sum at " + place, x.sign(0, place, 1), sums[place]);
        }
    }

    private static void cuts() {
        Sentences.holds("A text is cut into pieces from its begin on: a piece ends behind a sign, if it has at least"
                + " setting 3 signs by then, and the sum at the place of this sign, modulo setting 1, is setting 2; or"
                + " if it has setting 4 signs; or if it is the last sign of the text.", () -> {
                    leastLengths();
                    greatestLengths();
                    divisorAndRest();
                    lastSigns();
                });
        Sentences.holds("(The sums do not begin anew with a piece.)", () -> {
            CutStore x = new CutStore();
            // 4 and 16 end "ab" and "cd"; the sum at "d" would be 10 without the "b" of the piece ahead of it.
            Check.put(x, 0, "abcde");
            Check.hasPieces("by the sign ahead of the piece", x, 0, "ab cd e");
        });
        Sentences.holds("A piece that has setting 4 signs, and does not end by its sum, is forced (also if it is the"
                + " last one of the text).", () -> {
                    CutStore x = Examples.byForce(6);
                    forcedIs(x, "a9a4", 1, 1, 0);
                    forcedIs(x, "a9a3", 1, 1);
                    forcedIs(x, "a6", 1);
                    forcedIs(x, "a5", 0);
                    x.set(4, 20);
                    forcedIs(x, Examples.FORTY, 1, 1);
                    forcedIs(x, "a9a9a", 0);
                    // The sums of six "a" are 1 3 6 6 6 6: 6 has the rest 0 by 6.
                    x.set(4, 6);
                    x.set(1, 6);
                    x.set(2, 0);
                    x.set(3, 6);
                    forcedIs(x, "a9a3", 0, 0);
                    forcedIs(x, "a5", 0);
                });
    }

    private static void leastLengths() {
        for (int least = 1; least <= 6; least++) {
            CutStore x = Examples.evenly(least);
            Check.same("pieces", Check.put(x, 0, "aaaaaaaaaaaaa".substring(0, 2 * least + 1)), 3);
            for (int piece = 0; piece <= 2; piece++) {
                Check.same("least length " + least, x.piece(0, piece, 2), piece < 2 ? least : 1);
            }
        }
        CutStore x = new CutStore();
        x.set(0, 1);
        // Each "d" has the rest 0 by 4, but the first one of a piece comes too early.
        Check.put(x, 0, "dadada");
        Check.hasPieces("a sum that comes too early", x, 0, "dad ad a");
    }

    private static void greatestLengths() {
        for (int greatest = 6; greatest <= 20; greatest++) {
            CutStore x = Examples.byForce(greatest);
            Check.put(x, 0, Examples.FORTY);
            Check.same("pieces", x.text(0, 1), (39 + greatest) / greatest);
            Check.same("greatest length " + greatest, x.piece(0, 0, 2), greatest);
            Check.same("the next one too", x.piece(0, 1, 2), greatest);
        }
    }

    private static void divisorAndRest() {
        String[] byDivisor = {"a b c d e f g h", "ab cd ef gh", "abc def gh", "abcd efgh", "abcde fgh", "abcdef gh",
            "abcdefg h", "abcdefgh", "abcdefgh"};
        for (int divisor = 1; divisor <= 9; divisor++) {
            cutWithOneSignASum(divisor, 0, "abcdefgh", byDivisor[divisor - 1]);
        }
        String[] byRest = {"abcdefgh", "a bcdefgh", "ab cdefgh", "abc defgh", "abcd efgh", "abcde fgh", "abcdef gh",
            "abcdefg h", "abcdefgh a"};
        for (int rest = 0; rest <= 8; rest++) {
            cutWithOneSignASum(9, rest, rest < 8 ? "abcdefgh" : "abcdefgha", byRest[rest]);
        }
        cutWithOneSignASum(4, 4, "abcdabcd", "abcdabcd");
        cutWithOneSignASum(1, 1, "abcdabcd", "abcdabcd");
    }

    private static void cutWithOneSignASum(int divisor, int rest, String signs, String pieces) {
        CutStore x = new CutStore();
        x.set(0, 1);
        x.set(1, divisor);
        x.set(2, rest);
        x.set(3, 1);
        Check.put(x, 0, signs);
        Check.hasPieces("modulo " + divisor + ", rest " + rest, x, 0, pieces);
    }

    private static void lastSigns() {
        CutStore x = Examples.evenly(6);
        Check.put(x, 0, "a");
        Check.hasPieces("the first sign is the last one", x, 0, "a");
        Check.put(x, 0, "a5");
        Check.hasPieces("shorter than the least length", x, 0, "aaaaa");
        Check.put(x, 0, "a6");
        Check.hasPieces("nothing behind the last piece", x, 0, "aaaaaa");
    }

    private static void forcedIs(CutStore x, String characters, int... due) {
        Check.same("pieces of " + characters, Check.put(x, 0, characters), due.length);
        int forced = 0;
        for (int piece = 0; piece < due.length; piece++) {
            forced += due[piece];
            Check.same(characters + ", is piece " + piece + " forced", x.piece(0, piece, 3), due[piece]);
        }
        Check.same(characters + ", forced ones", x.text(0, 3), forced);
    }

    private static void cutAnew() {
        Sentences.holds("Each call that makes or changes a text cuts it anew, the whole of it, by the settings as they"
                + " are then (also if its signs stay as they are); settings that change later do not cut it again.", () -> {
                    CutStore x = Examples.evenly(2);
                    Check.put(x, 0, "abcdef");
                    x.set(3, 3);
                    Check.put(x, 0, "abcdef");
                    Check.hasPieces("put of the same signs", x, 0, "abc def");
                    x.set(3, 2);
                    Check.type(x, "g");
                    x.insert(0, 6);
                    Check.hasPieces("insert behind the last one", x, 0, "ab cd ef g");
                    x.set(3, 4);
                    x.takeOut(0, 6, 1);
                    Check.hasPieces("takeOut of the last one", x, 0, "abcd ef");
                    x.set(3, 3);
                    x.rotate(0, 6);
                    Check.hasPieces("rotate of all signs", x, 0, "abc def");
                    x.set(3, 5);
                    x.copy(0, 0);
                    Check.hasPieces("copy of itself", x, 0, "abcde f");
                    x.set(3, 1);
                    x.copy(1, 0);
                    Check.hasPieces("copy to another", x, 1, "a b c d e f");
                    Check.hasPieces("the other one is not changed", x, 0, "abcde f");
                    laterSettingsDoNotCut();
                });
    }

    private static void laterSettingsDoNotCut() {
        CutStore x = new CutStore();
        Check.put(x, 0, "abcdefaaaaaaaaaa");
        String pieces = Check.pieces(x, 0);
        for (int setting = 0; setting <= 4; setting++) {
            x.set(setting, Examples.LOWEST[setting]);
            x.set(setting, Examples.HIGHEST[setting]);
            x.sweep();
            Check.put(x, 1, "aaaabcd");
            Check.hasPieces("behind setting " + setting, x, 0, pieces);
        }
    }

    private static void settings() {
        Sentences.part("Settings");
        Sentences.holds("0: the signs of a sum, 1 to 6, at first 3; 1: the divisor, 1 to 9, at first 4; 2: the rest, 0"
                + " to 8, at first 0; 3: the least length, 1 to 6, at first 2; 4: the greatest length, 6 to 20, at first 10.",
                () -> {
                    for (int each = 0; each <= 4; each++) {
                        int setting = each;
                        CutStore x = new CutStore();
                        Check.same("at first", x.setting(setting), Examples.FIRST[setting]);
                        Check.refusesBeyond(x, "setting " + setting + " as", Check.ARGUMENT,
                                value -> x.set(setting, value), Examples.LOWEST[setting] - 1, Examples.HIGHEST[setting] + 1);
                        for (int value = Examples.LOWEST[setting]; value <= Examples.HIGHEST[setting]; value++) {
                            x.set(setting, value);
                            Check.same("setting " + setting, x.setting(setting), value);
                        }
                    }
                    eachSettingCuts();
                });
    }

    private static void eachSettingCuts() {
        CutStore x = new CutStore();
        Check.put(x, 0, "abcdefghabcdefgh");
        Check.hasPieces("3 signs a sum, modulo 4, is 0, 2 to 10 signs", x, 0, "ab cd ef gh ab cd ef gh");
        Check.same("pieces with one sign a sum", x.ifSet(0, 0, 1), 4);
        Check.same("pieces with the divisor 1", x.ifSet(0, 1, 1), 8);
        Check.same("pieces with the rest 8", x.ifSet(0, 2, 8), 2);
        Check.same("pieces with the least length 6", x.ifSet(0, 3, 6), 3);
        x.set(2, 8);
        Check.same("pieces with the greatest length 10", x.ifSet(0, 4, 10), 2);
        Check.same("pieces with the greatest length 6", x.ifSet(0, 4, 6), 3);
    }

    private static void inputText() {
        Sentences.part("Input text");
        Sentences.holds("The buffer has at most 60 characters.", () -> {
            CutStore x = new CutStore();
            for (int length = 1; length <= 60; length++) {
                Check.same("length", x.append('!'), length);
            }
            Check.refuses(x, "the character 61", Check.STATE, () -> x.append('!'));
            Check.same("cleared", x.clearBuffer(), 60);
            Check.same("room again", x.append('a'), 1);
        });
        Sentences.holds("A text as a text is one or more letters \"a\" to \"h\", each perhaps with a number behind it,"
                + " 2 to 9, which tells how often it stands there, at most 40 signs in all.", () -> {
                    isText("a", "a");
                    isText("h", "h");
                    isText("abcdefgh", "abcdefgh");
                    isText("a2", "aa");
                    isText("h9", "hhhhhhhhh");
                    isText("a2b3c4a", "aabbbcccca");
                    isText("aa2", "aaa");
                    isText(Examples.FORTY, "a".repeat(40));
                    isText("abcdefgh".repeat(5), "abcdefgh".repeat(5));
                    isText("a2".repeat(20), "a".repeat(40));
                    isText("b9".repeat(4) + "abcd", "b".repeat(36) + "abcd");
                    isText("a".repeat(31) + "h9", "a".repeat(31) + "h".repeat(9));
                    for (String other : new String[] {"", "i", "`", "A", "H", "1", "2", "9a", "a0", "a1", "a:", "a/",
                        "a22", "a10", "ai", "a!b", Examples.FORTY + "a", Examples.FORTY + "2", "a".repeat(41),
                        "b9".repeat(4) + "abcde", "b9".repeat(4) + "abcd2", "a".repeat(32) + "h9", "a9".repeat(5)}) {
                        isNoText(other);
                    }
                });
        Sentences.holds("The buffer is read from left to right; a character is a syntax error if no text as a text"
                + " begins with the characters before it and this character.", () -> {
                    errorIsAt("", 0);
                    errorIsAt("a", 1);
                    errorIsAt("2", 0);
                    errorIsAt("i2", 0);
                    errorIsAt("a33b", 2);
                    errorIsAt("a1b0", 1);
                    errorIsAt("ab~!", 2);
                    errorIsAt(Examples.FORTY, 10);
                    errorIsAt(Examples.FORTY + "!", 10);
                    errorIsAt(Examples.FORTY + "2", 10);
                    errorIsAt("a9a9a9a9a5", 9);
                    errorIsAt("a9a9a9a9aaaab", 12);
                    errorIsAt("a".repeat(40), 40);
                    errorIsAt("a".repeat(41), 40);
                    errorIsAt("a".repeat(40) + "2", 40);
                    errorIsAt("a".repeat(39) + "23", 40);
                    errorIsAt("a".repeat(39) + "3", 39);
                    errorIsAt("a".repeat(60), 40);
                    errorIsAt("a2".repeat(30), 40);
                });
    }

    private static void isText(String characters, String signs) {
        CutStore x = Examples.evenly(6);
        Check.put(x, 0, characters);
        Check.same("'" + characters + "' is " + signs + ", which", Check.signs(x, 0).equals(signs) ? 1 : 0, 1);
    }

    private static void isNoText(String characters) {
        CutStore x = new CutStore();
        Check.type(x, characters);
        Check.refuses(x, "'" + characters + "'", Check.ARGUMENT, () -> x.put(0));
        Check.same("'" + characters + "' if put", x.ifPut(0, 0), CutStore.NONE);
    }

    private static void errorIsAt(String characters, int index) {
        CutStore x = new CutStore();
        Check.type(x, characters);
        Check.same("the error of '" + characters + "'", x.firstError(), index);
    }

    private static void undo() {
        Sentences.part("Undo");
        Sentences.holds("Each method that is marked \"undoable\" and does not throw an exception saves the state from"
                + " before it (also if it changes nothing): all, also what is counted so far, but the buffer and the"
                + " saved states.", () -> {
                    savedByEach();
                    savedWithoutChange();
                    notSaved();
                    whatIsSaved();
                });
        Sentences.holds("At most 6 states are saved; the oldest one is dropped first.", () -> {
            CutStore x = new CutStore();
            for (int calls = 1; calls <= 9; calls++) {
                x.set(1, calls);
                Check.same("saved", x.count(9), calls < 6 ? calls : 6);
            }
            for (int left = 5; left >= 0; left--) {
                Check.same("left", x.undo(), left);
                Check.same("the latest one first", x.setting(1), left + 3);
            }
            Check.refuses(x, "the seventh one", Check.STATE, () -> x.undo());
            Check.same("the ones before are dropped", x.setting(1), 3);
        });
    }

    private static void savedByEach() {
        Check.undoes(small(), "put", "abc", x -> x.put(3));
        Check.undoes(small(), "insert", "abc", x -> x.insert(0, 1));
        Check.undoes(small(), "takeOut", "", x -> x.takeOut(0, 1, 3));
        Check.undoes(small(), "copy", "", x -> x.copy(0, 1));
        Check.undoes(small(), "rotate", "", x -> x.rotate(0, 1));
        Check.undoes(small(), "drop", "", x -> x.drop(0));
        Check.undoes(small(), "sweep", "", x -> x.sweep());
        Check.undoes(small(), "set", "", x -> x.set(0, 6));
    }

    private static void savedWithoutChange() {
        Check.undoes(small(), "put of the same", "abcde", x -> x.put(0));
        Check.undoes(small(), "copy of itself", "", x -> x.copy(0, 0));
        Check.undoes(small(), "copy of an empty one", "", x -> x.copy(3, 2));
        Check.undoes(small(), "rotate of all", "", x -> x.rotate(0, 5));
        Check.undoes(small(), "drop of an empty one", "", x -> x.drop(3));
        Check.undoes(new CutStore(), "sweep of an empty store", "", x -> x.sweep());
        CutStore swept = small();
        swept.undo();
        swept.undo();
        Check.undoes(swept, "sweep without pieces to sweep", "", x -> x.sweep());
        Check.undoes(small(), "set of the same", "", x -> x.set(1, 1));
    }

    /** Text 0 is "ab cd e", text 1 "ef", and "gh" has no owners. */
    private static CutStore small() {
        CutStore x = new CutStore();
        x.set(1, 1);
        Check.put(x, 0, "abcde");
        Check.put(x, 1, "gh");
        Check.put(x, 1, "ef");
        return x;
    }

    private static void notSaved() {
        CutStore x = Examples.withoutRoom();
        for (int left = x.count(9); left > 2; left--) {
            x.undo();
        }
        Check.type(x, "a!");
        x.firstError();
        Check.refuses(x, "put", Check.ARGUMENT, () -> x.put(0));
        Check.refuses(x, "insert", Check.ARGUMENT, () -> x.insert(0, 0));
        Check.refuses(x, "takeOut", Check.PLACE, () -> x.takeOut(0, 40, 1));
        Check.refuses(x, "copy", Check.PLACE, () -> x.copy(0, 4));
        Check.refuses(x, "rotate", Check.ARGUMENT, () -> x.rotate(0, 41));
        Check.refuses(x, "drop", Check.PLACE, () -> x.drop(4));
        Check.refuses(x, "set", Check.ARGUMENT, () -> x.set(0, 7));
        x.clearBuffer();
        Check.same("still saved", x.count(9), 2);
    }

    private static void whatIsSaved() {
        CutStore x = small();
        int came = x.count(7);
        x.sweep();
        Check.put(x, 2, "hgef");
        Check.type(x, "xyz");
        Check.same("came", x.count(7), came + 1);
        x.undo();
        Check.same("came, undone", x.count(7), came);
        Check.same("swept", x.count(8), 1);
        x.undo();
        Check.same("swept, undone", x.count(8), 0);
        Check.same("the buffer is not", x.clearBuffer(), 3);
        Check.same("the states that are left", x.count(9), 4);
        x.undo();
        Check.same("the state before the latest one", x.slot(3, 1), 1);
        x.undo();
        x.undo();
        x.undo();
        Check.same("the first one", x.digest(), new CutStore().digest());
    }

    private static void exceptions() {
        Sentences.part("Exceptions");
        Sentences.holds("A call that throws an exception changes nothing.", () -> {
            CutStore x = Examples.withoutRoom();
            CutStore twin = Examples.withoutRoom();
            Check.type(x, "h");
            Check.type(twin, "h");
            for (Check.CallOn call : refusedCalls()) {
                Check.same("it is refused", isRefused(x, call) ? 1 : 0, 1);
                Check.same("nothing is changed", x.digest(), twin.digest());
            }
            for (int left = twin.count(9); left > 0; left--) {
                Check.same("left", x.undo(), twin.undo());
                Check.same("a saved state is not changed", x.digest(), twin.digest());
            }
            Check.refuses(x, "undo", Check.STATE, () -> x.undo());
        });
        Sentences.holds("If several exceptions apply, the one that is named first in the throws clause is thrown.", () -> {
            CutStore x = Examples.withoutRoom();
            severalOfTexts(x);
            severalOfLooks(x);
            Check.type(x, "!".repeat(60));
            Check.refusesEach(x, "append to a full buffer", Check.ARGUMENT, code -> x.append(code), 32, 127);
        });
        Sentences.holds("The constants: `NONE = -1`: There is nothing to return.", () -> {
            CutStore x = new CutStore();
            Check.same("NONE", CutStore.NONE, -1);
            Check.same("no piece", x.piece(0, 0, 1), CutStore.NONE);
            Check.same("no piece on the slot", x.slot(0, 1), CutStore.NONE);
            Check.same("no text in the buffer", x.ifPut(0, 1), CutStore.NONE);
        });
        Sentences.holds("Ahead of the calls `sign`, `piece`, `slot`, `text`, `common`, `count`, `setting` the"
                + " interface says: ---- looks; nothing is changed.", () -> changesNothing(TermSentences::looks));
        Sentences.holds("Ahead of the calls `ifPut`, `ifSet`, `bestDivisor`, `savedShare`, `digest` the interface"
                + " says: ---- what would be; nothing is changed.", () -> changesNothing(TermSentences::whatWouldBe));
    }

    /** Of an object that has no room, with "h" in the buffer. */
    private static Check.CallOn[] refusedCalls() {
        return new Check.CallOn[] {x -> x.put(4), x -> x.insert(0, 41), x -> x.insert(0, 40), x -> x.insert(3, 0),
            x -> x.takeOut(0, 40, 1), x -> x.takeOut(0, 39, 2), x -> x.copy(0, -1), x -> x.copy(4, 0),
            x -> x.rotate(0, 41), x -> x.rotate(-1, 1), x -> x.drop(-1), x -> x.set(5, 1), x -> x.set(0, 0),
            x -> x.append(127), x -> x.sign(0, 40, 0), x -> x.sign(0, 0, 4), x -> x.piece(0, -1, 0),
            x -> x.piece(0, 0, 5), x -> x.slot(60, 0), x -> x.slot(0, 5), x -> x.text(0, 6), x -> x.common(0, 0, 3),
            x -> x.count(10), x -> x.setting(5), x -> x.ifPut(0, 4), x -> x.ifSet(0, 0, 7)};
    }

    private static boolean isRefused(CutStore x, Check.CallOn call) {
        try {
            call.answer(x);
            return false;
        } catch (IndexOutOfBoundsException | IllegalArgumentException | IllegalStateException e) {
            return true;
        }
    }

    private static void severalOfTexts(CutStore x) {
        Check.refuses(x, "put: text, buffer", Check.PLACE, () -> x.put(4));
        Check.refuses(x, "insert: text, place, buffer", Check.PLACE, () -> x.insert(4, 41));
        Check.refuses(x, "insert: place, buffer, length", Check.PLACE, () -> x.insert(0, 41));
        Check.type(x, "a!");
        Check.refuses(x, "put: text, buffer", Check.PLACE, () -> x.put(-1));
        Check.refuses(x, "insert: place, buffer", Check.PLACE, () -> x.insert(0, -1));
        Check.refuses(x, "insert: buffer, length", Check.ARGUMENT, () -> x.insert(0, 40));
        x.clearBuffer();
        Check.refuses(x, "insert: buffer, length", Check.ARGUMENT, () -> x.insert(0, 40));
        Check.type(x, "h");
        Check.refuses(x, "insert: place, length", Check.PLACE, () -> x.insert(0, 41));
        Check.refuses(x, "insert: text, length", Check.PLACE, () -> x.insert(4, 40));
        x.clearBuffer();
        Check.refuses(x, "takeOut: text, place, many", Check.PLACE, () -> x.takeOut(4, 40, 41));
        Check.refuses(x, "takeOut: place, many", Check.PLACE, () -> x.takeOut(0, 40, 0));
        Check.refuses(x, "takeOut: place, many", Check.PLACE, () -> x.takeOut(0, -1, 41));
        Check.refuses(x, "rotate: text, many", Check.PLACE, () -> x.rotate(4, 0));
        Check.refuses(x, "rotate: text, many", Check.PLACE, () -> x.rotate(-1, 41));
        Check.refuses(x, "set: setting, value", Check.PLACE, () -> x.set(5, -1));
        Check.refuses(x, "set: setting, value", Check.PLACE, () -> x.set(-1, 21));
    }

    private static void severalOfLooks(CutStore x) {
        Check.refuses(x, "sign: text, place, what", Check.PLACE, () -> x.sign(4, 40, 4));
        Check.refuses(x, "sign: text, what", Check.PLACE, () -> x.sign(-1, 0, 4));
        Check.refuses(x, "sign: place, what", Check.PLACE, () -> x.sign(0, 40, -1));
        Check.refuses(x, "piece: text, piece", Check.PLACE, () -> x.piece(4, -1, 0));
        Check.refuses(x, "piece: text, what", Check.PLACE, () -> x.piece(-1, 0, 5));
        Check.refuses(x, "slot: slot, what", Check.PLACE, () -> x.slot(60, 5));
        Check.refuses(x, "text: text, what", Check.PLACE, () -> x.text(4, 6));
        Check.refuses(x, "common: one, what", Check.PLACE, () -> x.common(-1, 0, 3));
        Check.refuses(x, "common: other, what", Check.PLACE, () -> x.common(0, 4, -1));
        Check.refuses(x, "ifPut: text, what", Check.PLACE, () -> x.ifPut(4, 4));
        Check.refuses(x, "ifSet: text, value", Check.PLACE, () -> x.ifSet(4, 0, 7));
        Check.refuses(x, "ifSet: setting, value", Check.PLACE, () -> x.ifSet(0, 5, -1));
    }

    private static void changesNothing(Check.CallOn calls) {
        CutStore x = Examples.sharing();
        CutStore twin = Examples.sharing();
        Check.type(x, "ghgh");
        Check.type(twin, "ghgh");
        x.drop(2);
        twin.drop(2);
        calls.answer(x);
        Check.same("nothing is changed", x.digest(), twin.digest());
        x.undo();
        twin.undo();
        Check.same("the latest saved state is not", x.digest(), twin.digest());
    }

    private static long looks(CutStore x) {
        long answers = 0;
        for (int text = 0; text <= 3; text++) {
            for (int what = 0; what <= 2; what++) {
                answers += x.text(text, what) + x.text(text, what + 3) + x.piece(text, 0, what) + x.piece(text, 1, what + 2)
                        + x.common(text, 1, what) + x.slot(text, what) + x.slot(text, what + 2);
            }
        }
        for (int what = 0; what <= 9; what++) {
            answers += x.count(what) + x.setting(what / 2) + x.sign(3, 0, what % 4);
        }
        return answers;
    }

    private static long whatWouldBe(CutStore x) {
        long answers = x.bestDivisor() + (long) x.savedShare() + x.digest();
        for (int text = 0; text <= 3; text++) {
            for (int what = 0; what <= 3; what++) {
                answers += x.ifPut(text, what) + x.ifSet(text, what, 6) + x.ifSet(text, 4, 6);
            }
        }
        return answers;
    }
}
