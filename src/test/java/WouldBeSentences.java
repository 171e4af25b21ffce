import java.util.function.Supplier;

/** The sentences of promises 21 to 25: what would be. */
final class WouldBeSentences {
    private static final String NO_TEXT = "Throws `IndexOutOfBoundsException` if there is no such text";

    private WouldBeSentences() {
    }

    static void tests() {
        ifPut();
        ifPutWhats();
        ifSet();
        ifSetValues();
        bestDivisor();
        savedShare();
        digest();
    }

    private static void ifPut() {
        Sentences.part("Promise 21: ifPut");
        Sentences.holds("Tells what putting the text in the buffer would bring.", () -> {
            CutStore x = Examples.sharing();
            CutStore twin = Examples.sharing();
            Check.type(x, "ghghghgha");
            Check.type(twin, "ghghghgha");
            for (int text = 0; text <= 3; text++) {
                Check.same("pieces", x.ifPut(text, 0), twin.put(text));
                Check.same("new ones", x.ifPut(text, 1), twin.count(7) - x.count(7));
                Check.same("nothing is changed", x.digest() == twin.digest() ? 1 : 0, 0);
                twin.undo();
                Check.type(twin, "ghghghgha");
            }
            x.undo();
            Check.same("not undoable", x.count(9), 5);
        });
        Sentences.holds("`text`: 0 to 3, for which it would be put", () -> {
            CutStore x = Examples.withoutRoom();
            Check.type(x, "g9g9g2h9h2");
            int[] refused = {0, 0, 0, 1};
            for (int text = 0; text <= 3; text++) {
                Check.same("for text " + text, x.ifPut(text, 3), refused[text]);
            }
        });
        Sentences.holds("Returns the number; NONE if the buffer is not a complete text as a text.", () -> {
            for (String characters : new String[] {"", "2", "a1", "a22", "i", Examples.FORTY + "a", Examples.FORTY + "2", "a9a9a9a9a5"}) {
                CutStore x = new CutStore();
                Check.type(x, characters);
                for (int what = 0; what <= 3; what++) {
                    Check.same("'" + characters + "', " + what, x.ifPut(3, what), CutStore.NONE);
                }
            }
            CutStore x = new CutStore();
            Check.type(x, Examples.FORTY);
            Check.same("forty signs", x.ifPut(0, 0), 4);
        });
        Sentences.holds(NO_TEXT, () -> {
            CutStore x = Examples.sharing();
            Check.refusesBeyond(x, "text without a text in the buffer", Check.PLACE, text -> x.ifPut(text, 0), -1, 4);
            Check.type(x, "ab");
            Check.refusesBeyond(x, "text", Check.PLACE, text -> x.ifPut(text, 0), -1, 4);
        });
        Sentences.holds("Throws `IllegalArgumentException` if what is not 0 to 3", () -> {
            CutStore x = Examples.sharing();
            Check.refusesEach(x, "what without a text in the buffer", Check.ARGUMENT, what -> x.ifPut(0, what), -1, 4);
            Check.type(x, "ab");
            Check.refusesBeyond(x, "what", Check.ARGUMENT, what -> x.ifPut(0, what), -1, 4);
        });
    }

    private static void ifPutWhats() {
        Sentences.holds("`what`: 0: its pieces, how many; 1: unlike pieces of it that the store does not keep now; 2:"
                + " the sum of the lengths of these; 3: 1 if it would be refused, otherwise 0", () -> {
                    CutStore x = Examples.evenly(2);
                    Check.put(x, 0, "abcdef");
                    ifPutIs(x, "abcdef", 3, 0, 0, 0);
                    ifPutIs(x, "ghabghg", 4, 2, 3, 0);
                    Check.put(x, 0, "cd");
                    ifPutIs(x, "abef", 2, 0, 0, 0);
                    x.sweep();
                    ifPutIs(x, "abefab", 3, 2, 4, 0);
                    x.set(3, 6);
                    ifPutIs(x, "abefabc", 2, 2, 7, 0);

                    CutStore slots = Examples.withoutSlots();
                    ifPutIs(slots, "hehehe", 3, 1, 2, 1);
                    slots.takeOut(2, 38, 2);
                    ifPutIs(slots, "hehehe", 3, 1, 2, 0);
                    ifPutIs(slots, "hehf", 2, 2, 4, 1);
                    ifPutIs(slots, "hdhd", 2, 0, 0, 0);
                    ifPutIs(slots, "hdhe", 2, 1, 2, 1);

                    CutStore room = Examples.withoutRoom();
                    ifPutIs(room, "h9h9h2g9g", 2, 2, 30, 0);
                    ifPutIs(room, "h9h9h2g9g2", 2, 2, 31, 1);
                    ifPutIs(room, "g9g9g2h9h2", 2, 1, 11, 1);
                    ifPutIs(room, "a9a9a2b9b9b2", 2, 0, 0, 0);
                });
    }

    /** For text 3; the buffer is cleared again. */
    private static void ifPutIs(CutStore x, String characters, int... due) {
        Check.type(x, characters);
        for (int what = 0; what <= 3; what++) {
            Check.same("'" + characters + "', " + what, x.ifPut(3, what), due[what]);
        }
        x.clearBuffer();
    }

    private static void ifSet() {
        Sentences.part("Promise 22: ifSet");
        Sentences.holds("Tells into how many pieces a text would be cut with another setting.", "`text`: 0 to 3", () -> {
            CutStore x = Examples.evenly(2);
            Check.put(x, 0, "abcdef");
            Check.put(x, 3, "abcdefgh");
            Check.same("the first", x.ifSet(0, 3, 1), 6);
            Check.same("the last", x.ifSet(3, 3, 1), 8);
        });
        Sentences.holds("`setting`: 0 to 4", () -> {
            CutStore x = new CutStore();
            Check.put(x, 0, "abcdefgh");
            Check.same("the first", x.ifSet(0, 0, 1), 2);
            Check.same("the second", x.ifSet(0, 1, 5), 2);
            Check.same("the third", x.ifSet(0, 2, 3), 1);
            Check.same("the fourth", x.ifSet(0, 3, 6), 2);
            x.set(2, 8);
            Check.same("the last", x.ifSet(0, 4, 6), 2);
        });
        Sentences.holds("Returns how many pieces, if the text was cut anew with it.", () -> {
            CutStore x = Examples.evenly(2);
            Check.put(x, 0, "abcdef");
            Check.same("as it is", x.ifSet(0, 3, 2), 3);
            x.set(3, 1);
            Check.same("cut anew by the others as they are", x.ifSet(0, 4, 6), 6);
            Check.same("not as it was cut", x.text(0, 1), 3);
            Check.same("of an empty text", x.ifSet(1, 3, 1), 0);
            Check.same("the setting stays", x.setting(3), 1);
            Check.put(x, 2, Examples.FORTY);
            Check.same("forty", x.ifSet(2, 3, 1), 40);
            CutStore full = Examples.withoutSlots();
            Check.same("also if the store could not keep them", full.ifSet(0, 3, 3), 14);
        });
        Sentences.holds("Throws `IndexOutOfBoundsException` if there is no such text or setting", () -> {
            CutStore x = Examples.sharing();
            Check.refusesBeyond(x, "text", Check.PLACE, text -> x.ifSet(text, 1, 2), -1, 4);
            Check.refusesBeyond(x, "setting", Check.PLACE, setting -> x.ifSet(0, setting, 6), -1, 5);
        });
    }

    private static void ifSetValues() {
        Sentences.holds("`value`: a value that it can have", () -> {
            CutStore x = Examples.sharing();
            for (int setting = 0; setting <= 4; setting++) {
                for (int value = Examples.LOWEST[setting]; value <= Examples.HIGHEST[setting]; value++) {
                    CutStore twin = Examples.sharing();
                    twin.set(setting, value);
                    Check.same("setting " + setting + " as " + value, x.ifSet(3, setting, value), twin.copy(3, 3));
                }
            }
        });
        Sentences.holds("Throws `IllegalArgumentException` if value is out of range", () -> {
            CutStore x = Examples.sharing();
            for (int each = 0; each <= 4; each++) {
                int setting = each;
                Check.refusesBeyond(x, setting + " as", Check.ARGUMENT, value -> x.ifSet(0, setting, value),
                        Examples.LOWEST[setting] - 1, Examples.HIGHEST[setting] + 1);
                Check.refusesEach(x, setting + " of an empty text as", Check.ARGUMENT,
                        value -> new CutStore().ifSet(0, setting, value), Examples.LOWEST[setting] - 1, Examples.HIGHEST[setting] + 1);
            }
        });
    }

    private static void bestDivisor() {
        Sentences.part("Promise 23: bestDivisor");
        Sentences.holds("Finds the divisor that shares best.", "Returns the setting 1, 1 to 9, with which, if all"
                + " texts were cut anew, the lengths of all unlike pieces together would be least, of several the greatest"
                + " one.", () -> {
                    Check.same("without signs", new CutStore().bestDivisor(), 9);
                    bestIs(new int[] {3, 4, 0, 2, 10}, 9, "a");
                    // By one sign a sum: divisor 1 and 2, "dd" four times; 3, all eight; 4, "dd"; 5 to 9, all eight.
                    bestIs(new int[] {1, 9, 0, 2, 10}, 4, "d8");
                    // 1: "ba"; 2: "bab", "ab", "ab", "a"; 3 to 9: all eight.
                    bestIs(new int[] {1, 4, 0, 2, 10}, 1, "babababa");
                    bestIs(new int[] {1, 4, 0, 2, 10}, 2, "abababab");
                    // 3: "bac", twice; 1: "ba", "cb", "ac"; the others: all six.
                    bestIs(new int[] {1, 4, 0, 2, 10}, 3, "bacbac");
                    // By the rest 8 only 9 ends pieces, and only behind "h".
                    bestIs(new int[] {1, 4, 8, 1, 20}, 9, "hahahaha");
                    // By the rest 0 the divisors 1, 2, 4 and 8 end pieces behind each "h".
                    bestIs(new int[] {1, 4, 0, 1, 20}, 8, "ahahahah");
                    byTheSettingsAsTheyAre();
                    ofManyUnlikePieces();
                });
    }

    private static void bestIs(int[] settings, int due, String... texts) {
        CutStore x = new CutStore();
        for (int setting = 0; setting <= 4; setting++) {
            x.set(setting, settings[setting]);
        }
        for (int text = 0; text < texts.length; text++) {
            Check.put(x, text, texts[text]);
        }
        long before = x.digest();
        Check.same("best for " + String.join(", ", texts), x.bestDivisor(), due);
        Check.same("nothing is changed", x.digest(), before);
    }

    private static void byTheSettingsAsTheyAre() {
        CutStore x = new CutStore();
        x.set(0, 1);
        Check.put(x, 0, "d8");
        Check.same("divisor 4 gives dd", x.bestDivisor(), 4);
        x.set(2, 4);
        Check.same("by the rest 4 from 5 on", x.bestDivisor(), 9);
        x.set(2, 0);
        x.set(3, 6);
        Check.same("six and two by 1, 2 and 4, all eight by the others", x.bestDivisor(), 9);
        x.drop(0);
        Check.same("pieces without a text don't count", x.bestDivisor(), 9);
    }

    /** More than 50 unlike pieces by the divisor 1, whose lengths are 106, one more than those by 2. */
    private static void ofManyUnlikePieces() {
        bestIs(new int[] {6, 2, 0, 2, 20}, 2, "eabghacgfgfcahebfeddegghfhbdgdhdhacgchaa",
                "abghacgfgfcahebfeddegghfhbdgdhdhacgchaaf", "dghdhccbcgbddaggdfahdfhbeefcffdbaeffddcg",
                "ghdhccbcgbddaggdfahdfhbeefcffdbaeffddcge");
    }

    private static void savedShare() {
        Sentences.part("Promise 24: savedShare");
        Sentences.holds("Returns how much sharing saves.", "Returns 1.0 less a quotient: the lengths of all pieces"
                + " with owners together, as a double, divided by the signs of all texts; 0.0 without signs.", () -> {
                    Check.same("without signs", new CutStore().savedShare(), 0.0);
                    CutStore x = Examples.sharing();
                    Check.same("shared", x.savedShare(), 1.0 - 15.0 / 23.0);
                    x.drop(1);
                    Check.same("pieces without owners don't count", x.savedShare(), 1.0 - 13.0 / 17.0);
                    x.drop(0);
                    x.drop(2);
                    Check.same("nothing is shared", x.savedShare(), 0.0);
                    x.drop(3);
                    Check.same("without signs any more", x.savedShare(), 0.0);
                    CutStore alike = Examples.evenly(1);
                    Check.put(alike, 0, Examples.FORTY);
                    Check.same("a text with itself", alike.savedShare(), 1.0 - 1.0 / 40.0);
                    alike.copy(1, 0);
                    alike.copy(2, 0);
                    alike.copy(3, 0);
                    Check.same("the greatest share", alike.savedShare(), 1.0 - 1.0 / 160.0);
                    Check.put(alike, 3, "b");
                    Check.same("a third", alike.savedShare(), 1.0 - 2.0 / 121.0);
                });
    }

    private static void digest() {
        Sentences.part("Promise 25: digest");
        Sentences.holds("Computes a hash of the whole state.", "Returns the hash.", () -> {
            CutStore x = Examples.sharing();
            long before = x.digest();
            Check.same("the same again", x.digest(), before);
            Check.same("of another object in the same state", Examples.sharing().digest(), before);
            x.append('a');
            Check.same("with the buffer", x.digest() == before ? 1 : 0, 0);
        });
        Sentences.holds("The hash starts at 2663.", "For each value v of the following list, in order, the hash"
                + " becomes 31 * hash + v, in long arithmetic with overflow.", () -> {
                    long hash = Digests.of(2663, 0, 0, 0, 0, 0, 0, 0, 0, 0, 0, 3, 4, 0, 2, 10);
                    for (int text = 0; text <= 3; text++) {
                        hash = Digests.of(hash, 0, 0, 0, 0, 0, 0, 0, 0, 0, -1, -1, -1, -1, 0);
                    }
                    Check.same("of a new object", new CutStore().digest(), Digests.of(hash, 9, 0, 0));
                });
        Sentences.holds("The values are: count(0) to count(9); the settings 0 to 4; for each text its numbers 0 to 5,"
                + " for each of its signs the numbers 0 to 3, for each of its pieces the numbers 0 to 4, what it has"
                + " in common with the text 0, with 0 to 2, ifPut for it with 0 to 3, and ifSet of its setting 1 as 2;"
                + " for each slot that is not free its number and its numbers 0 to 4; bestDivisor; the bits of"
                + " savedShare (as Double.doubleToLongBits); the length of the buffer and each of its character codes.", () -> {
                    isByFace(CutStore::new, "");
                    isByFace(CutStore::new, "a9~!");
                    isByFace(Examples::sharing, "");
                    isByFace(Examples::sharing, "ghab2");
                    isByFace(Examples::withoutSlots, "he");
                    isByFace(Examples::withoutRoom, "h9h9h2g9g9g2");
                    isByFace(WouldBeSentences::withFreeSlots, "!".repeat(60));
                    isByFace(WouldBeSentences::allAlike, "a");
                    isByFace(WouldBeSentences::half, "");
                });
    }

    private static CutStore withFreeSlots() {
        CutStore x = Examples.sharing();
        x.drop(0);
        x.sweep();
        x.drop(3);
        return x;
    }

    /** The share is 0.5, whose bits are those of a power of two. */
    private static CutStore half() {
        CutStore x = Examples.evenly(2);
        Check.put(x, 1, "ababcdcd");
        return x;
    }

    private static CutStore allAlike() {
        CutStore x = Examples.evenly(6);
        Check.put(x, 0, Examples.FORTY);
        x.copy(1, 0);
        x.copy(2, 0);
        return x;
    }

    private static void isByFace(Supplier<CutStore> maker, String characters) {
        CutStore x = maker.get();
        Check.type(x, characters);
        Check.same("with '" + characters + "' in the buffer", x.digest(), Digests.byFace(maker, characters));
    }
}
