/** The sentences of promises 1 to 9: a new object, and the calls that change texts. */
final class TextSentences {
    private static final String NO_TEXT = "Throws `IndexOutOfBoundsException` if there is no such text";
    private static final String NO_PLACE = NO_TEXT + " or place";
    private static final String NOT_COMPLETE =
            "Throws `IllegalArgumentException` if the buffer is not a complete text as a text";
    private static final String MANY_IS_WRONG = "Throws `IllegalArgumentException` if many is out of range";
    private static final String REFUSED = "Throws `IllegalStateException` if it is refused";
    private static final String PIECES = "Returns its pieces, how many.";

    private TextSentences() {
    }

    static void tests() {
        newObject();
        put();
        insert();
        insertArguments();
        takeOut();
        takeOutArguments();
        copy();
        rotate();
        rotateArguments();
        drop();
        sweep();
        set();
    }

    /** Text 0 is "ab cd e", text 1 "cd", and "gh" has no owners. */
    private static CutStore small() {
        CutStore x = new CutStore();
        x.set(1, 1);
        Check.put(x, 0, "abcde");
        Check.put(x, 1, "gh");
        Check.put(x, 1, "cd");
        return x;
    }

    private static void newObject() {
        Sentences.part("Promise 1: A new object");
        Sentences.holds("Creates empty texts and an empty store, with an empty buffer.", () -> {
            CutStore x = new CutStore();
            for (int text = 0; text <= 3; text++) {
                for (int what = 0; what <= 5; what++) {
                    Check.same("text " + text + ", " + what, x.text(text, what), 0);
                }
            }
            for (int slot = 0; slot <= 59; slot++) {
                Check.same("slot " + slot, x.slot(slot, 0), CutStore.NONE);
            }
            for (int what = 0; what <= 9; what++) {
                Check.same("count " + what, x.count(what), 0);
            }
            Check.same("the first error", x.firstError(), 0);
            Check.same("the buffer", x.clearBuffer(), 0);
            Check.put(x, 0, "abc");
            Check.same("another object", new CutStore().count(0), 0);
        });
    }

    private static void put() {
        Sentences.part("Promise 2: put");
        Sentences.holds("Makes a text the one in the buffer, and clears the buffer.", () -> {
            CutStore x = Examples.evenly(2);
            Check.put(x, 0, "abcde");
            Check.hasPieces("an empty text before", x, 0, "ab cd e");
            Check.same("the buffer", x.clearBuffer(), 0);
            Check.put(x, 0, "h3");
            Check.hasPieces("nothing of the old one is left", x, 0, "hh h");
            Check.put(x, 1, Examples.FORTY);
            Check.same("forty signs", x.text(1, 0), 40);
            Check.hasPieces("the others stay", x, 0, "hh h");
        });
        Sentences.holds("Undoable.", () -> {
            Check.undoes(small(), "put", "fgh", x -> x.put(0));
            Check.undoes(small(), "put", "fgh", x -> x.put(3));
            Check.undoes(small(), "put", "abcde", x -> x.put(0));
        });
        Sentences.holds("`text`: 0 to 3", () -> {
            CutStore x = new CutStore();
            Check.same("the first", Check.put(x, 0, "a"), 1);
            Check.same("the last", Check.put(x, 3, "b"), 1);
            Check.same("it is the last", x.sign(3, 0, 0), 2);
        });
        Sentences.holds(PIECES, () -> {
            CutStore x = Examples.evenly(1);
            Check.same("one", Check.put(x, 0, "h"), 1);
            Check.same("forty", Check.put(x, 0, Examples.FORTY), 40);
            x.set(3, 6);
            Check.same("cut anew", Check.put(x, 0, Examples.FORTY), 7);
        });
        Sentences.holds(NO_TEXT, () -> {
            CutStore x = small();
            Check.type(x, "ab");
            Check.refusesBeyond(x, "text", Check.PLACE, text -> x.put(text), -1, 4);
            Check.same("the buffer stays", x.clearBuffer(), 2);
        });
        Sentences.holds(NOT_COMPLETE, () -> {
            CutStore x = small();
            Check.refuses(x, "an empty buffer", Check.ARGUMENT, () -> x.put(0));
            for (String characters : new String[] {"3", "a1", "a22", "abi", Examples.FORTY + "a", "a9a9a9a9a5"}) {
                Check.type(x, characters);
                Check.refuses(x, characters, Check.ARGUMENT, () -> x.put(0));
                Check.same("the buffer stays", x.clearBuffer(), characters.length());
            }
        });
        Sentences.holds(REFUSED, () -> {
            CutStore x = Examples.withoutSlots();
            Check.same("kept pieces are not", Check.put(x, 3, "aahd"), 2);
            Check.type(x, "aahdh");
            Check.refuses(x, "a slot too many", Check.STATE, () -> x.put(3));
            Check.same("the buffer stays", x.clearBuffer(), 5);
            CutStore y = Examples.withoutRoom();
            Check.type(y, "g9g9g2h9h2");
            Check.refuses(y, "a sign too many", Check.STATE, () -> y.put(3));
        });
    }

    private static void insert() {
        Sentences.part("Promise 3: insert");
        Sentences.holds("Puts the text in the buffer into a text, ahead of a place, or behind the last one, and clears"
                + " the buffer.", () -> {
                    CutStore x = Examples.evenly(6);
                    inserted(x, "ab", 0, "ab");
                    Check.same("the buffer", x.clearBuffer(), 0);
                    inserted(x, "c", 0, "cab");
                    inserted(x, "d2", 3, "cabdd");
                    inserted(x, "e", 2, "caebdd");
                    x.set(3, 2);
                    inserted(x, "f3h", 5, "ca eb df ff hd");
                });
        Sentences.holds("Undoable.", () -> {
            Check.undoes(small(), "insert", "fgh", x -> x.insert(0, 2));
            Check.undoes(small(), "insert", "a", x -> x.insert(3, 0));
        });
        Sentences.holds(PIECES, () -> {
            CutStore x = Examples.evenly(1);
            Check.type(x, "h");
            Check.same("one", x.insert(0, 0), 1);
            Check.type(x, "a9a9a9a9a3");
            Check.same("forty", x.insert(0, 1), 40);
            Check.same("all signs", x.text(0, 0), 40);
        });
        Sentences.holds(NOT_COMPLETE, () -> {
            CutStore x = small();
            Check.refuses(x, "an empty buffer", Check.ARGUMENT, () -> x.insert(0, 0));
            for (String characters : new String[] {"3", "a1", "i", Examples.FORTY + "a", Examples.FORTY + "a9"}) {
                Check.type(x, characters);
                Check.refuses(x, characters, Check.ARGUMENT, () -> x.insert(0, 5));
                Check.same("the buffer stays", x.clearBuffer(), characters.length());
            }
        });
    }

    private static void inserted(CutStore x, String characters, int place, String pieces) {
        Check.type(x, characters);
        x.insert(0, place);
        Check.hasPieces(characters + " at " + place, x, 0, pieces);
    }

    private static void insertArguments() {
        Sentences.holds("`text`: 0 to 3", () -> {
            CutStore x = new CutStore();
            Check.type(x, "a");
            Check.same("the first", x.insert(0, 0), 1);
            Check.type(x, "b");
            Check.same("the last", x.insert(3, 0), 1);
            Check.same("it is the last", x.sign(3, 0, 0), 2);
        });
        Sentences.holds("`place`: 0 to the number of signs", () -> {
            CutStore x = Examples.evenly(6);
            Check.type(x, "a");
            Check.refuses(x, "1 of no signs", Check.PLACE, () -> x.insert(0, 1));
            x.insert(0, 0);
            Check.type(x, "b");
            x.insert(0, 1);
            Check.type(x, "c");
            Check.refuses(x, "3 of two signs", Check.PLACE, () -> x.insert(0, 3));
            x.insert(0, 2);
            Check.hasPieces("each behind the last one", x, 0, "abc");
        });
        Sentences.holds(NO_PLACE, () -> {
            CutStore x = small();
            Check.type(x, "ab");
            Check.refusesBeyond(x, "text", Check.PLACE, text -> x.insert(text, 0), -1, 4);
            Check.refusesBeyond(x, "place", Check.PLACE, place -> x.insert(0, place), -1, 6);
            Check.refusesEach(x, "place of an empty text", Check.PLACE, place -> x.insert(3, place), -1, 1);
            Check.same("the buffer stays", x.clearBuffer(), 2);
        });
        Sentences.holds("Throws `IllegalStateException` if it would have more than 40 signs, or it is refused", () -> {
            CutStore x = Examples.evenly(6);
            Check.put(x, 0, "b9b9b9b9b3");
            Check.type(x, "a2");
            Check.refuses(x, "41", Check.STATE, () -> x.insert(0, 0));
            Check.same("the buffer stays", x.clearBuffer(), 2);
            Check.type(x, "a");
            Check.same("40", x.insert(0, 0), 7);
            Check.type(x, Examples.FORTY);
            Check.refuses(x, "80", Check.STATE, () -> x.insert(0, 20));
            CutStore y = Examples.withoutSlots();
            Check.type(y, "h");
            Check.refuses(y, "a slot too many", Check.STATE, () -> y.insert(3, 0));
            CutStore z = Examples.withoutRoom();
            Check.type(z, "h");
            Check.refuses(z, "a sign too many", Check.STATE, () -> z.insert(3, 30));
        });
    }

    private static void takeOut() {
        Sentences.part("Promise 4: takeOut");
        Sentences.holds("Takes signs out of a text.", () -> {
            CutStore x = Examples.evenly(2);
            Check.put(x, 0, "abcdefgh");
            x.copy(1, 0);
            x.takeOut(0, 2, 3);
            Check.hasPieces("from the middle", x, 0, "ab fg h");
            x.takeOut(0, 0, 1);
            Check.hasPieces("from the begin", x, 0, "bf gh");
            x.takeOut(0, 3, 1);
            Check.hasPieces("from the end", x, 0, "bf g");
            x.takeOut(0, 0, 3);
            Check.hasPieces("all of them", x, 0, "");
            Check.hasPieces("the others stay", x, 1, "ab cd ef gh");
        });
        Sentences.holds("Undoable.", () -> {
            Check.undoes(small(), "takeOut", "", x -> x.takeOut(0, 1, 2));
            Check.undoes(small(), "takeOut", "", x -> x.takeOut(0, 0, 5));
        });
        Sentences.holds(PIECES, () -> {
            CutStore x = Examples.evenly(1);
            Check.put(x, 0, Examples.FORTY);
            Check.same("all but one", x.takeOut(0, 20, 1), 39);
            Check.same("one", x.takeOut(0, 0, 38), 1);
            Check.same("none", x.takeOut(0, 0, 1), 0);
        });
        Sentences.holds(REFUSED, () -> {
            CutStore x = Examples.withoutSlots();
            Check.put(x, 3, "abaa");
            Check.refuses(x, "a slot too many", Check.STATE, () -> x.takeOut(3, 3, 1));
            Check.same("kept pieces are not", x.takeOut(3, 2, 2), 1);
            CutStore y = Examples.byForce(20);
            Check.put(y, 0, "a9a9a2b9b9b2");
            Check.put(y, 1, "c9c9c2d9d9d2");
            Check.put(y, 2, "e9e9e2f9f9f2");
            y.copy(3, 2);
            Check.refuses(y, "nine signs too many", Check.STATE, () -> y.takeOut(3, 0, 1));
            Check.refuses(y, "a sign too many", Check.STATE, () -> y.takeOut(3, 0, 9));
            Check.same("30 signs are not", y.takeOut(3, 0, 10), 2);
        });
    }

    private static void takeOutArguments() {
        Sentences.holds("`text`: 0 to 3", () -> {
            CutStore x = Examples.evenly(1);
            Check.put(x, 0, "ab");
            Check.put(x, 3, "abc");
            Check.same("the first", x.takeOut(0, 0, 1), 1);
            Check.same("the last", x.takeOut(3, 0, 1), 2);
        });
        Sentences.holds("`place`: the first place", () -> {
            CutStore x = Examples.evenly(6);
            Check.put(x, 0, "abcdef");
            x.takeOut(0, 5, 1);
            Check.hasPieces("the last one", x, 0, "abcde");
            x.takeOut(0, 1, 2);
            Check.hasPieces("this one and the next one", x, 0, "ade");
            x.takeOut(0, 0, 1);
            Check.hasPieces("the first one", x, 0, "de");
        });
        Sentences.holds("`many`: 1 to 40, at most as many as there are from this place on", () -> {
            CutStore x = Examples.evenly(6);
            Check.put(x, 0, Examples.FORTY);
            Check.refusesEach(x, "many from the place 30", Check.ARGUMENT, many -> x.takeOut(0, 30, many), 0, 11, 40);
            Check.refusesEach(x, "many from the last place", Check.ARGUMENT, many -> x.takeOut(0, 39, many), 0, 2);
            x.takeOut(0, 30, 10);
            Check.same("the greatest from this place on", x.text(0, 0), 30);
            x.takeOut(0, 29, 1);
            Check.same("the least", x.text(0, 0), 29);
            x.undo();
            x.undo();
            x.takeOut(0, 0, 40);
            Check.same("forty", x.text(0, 0), 0);
        });
        Sentences.holds(NO_PLACE, () -> {
            CutStore x = small();
            Check.refusesBeyond(x, "text", Check.PLACE, text -> x.takeOut(text, 0, 1), -1, 4);
            Check.refusesBeyond(x, "place", Check.PLACE, place -> x.takeOut(0, place, 1), -1, 5);
            Check.refusesEach(x, "place of an empty text", Check.PLACE, place -> x.takeOut(3, place, 1), -1, 0, 1);
        });
        Sentences.holds(MANY_IS_WRONG, () -> {
            CutStore x = small();
            Check.refusesBeyond(x, "many of five", Check.ARGUMENT, many -> x.takeOut(0, 0, many), -1, 0, 6, 40, 41);
            Check.refusesBeyond(x, "many of the last one", Check.ARGUMENT, many -> x.takeOut(0, 4, many), -4, 0, 2, 5);
            Check.put(x, 0, Examples.FORTY);
            Check.refusesEach(x, "many of forty", Check.ARGUMENT, many -> x.takeOut(0, 0, many), 0, 41);
        });
    }

    private static void copy() {
        Sentences.part("Promise 5: copy");
        Sentences.holds("Makes a text the same as another one (which stays).", () -> {
            CutStore x = small();
            x.copy(1, 0);
            Check.hasPieces("the same", x, 1, "ab cd e");
            Check.hasPieces("the other one stays", x, 0, "ab cd e");
            x.copy(0, 3);
            Check.hasPieces("as an empty one", x, 0, "");
            Check.hasPieces("by itself from then on", x, 1, "ab cd e");
        });
        Sentences.holds("Undoable.", () -> {
            Check.undoes(small(), "copy", "", x -> x.copy(1, 0));
            Check.undoes(small(), "copy", "", x -> x.copy(0, 0));
            Check.undoes(small(), "copy", "", x -> x.copy(0, 3));
        });
        Sentences.holds("`text`: 0 to 3, the one that becomes another", () -> {
            CutStore x = small();
            Check.same("the last", x.copy(3, 0), 3);
            Check.same("the first", x.copy(0, 1), 1);
            Check.hasPieces("the last", x, 3, "ab cd e");
            Check.hasPieces("the first", x, 0, "cd");
        });
        Sentences.holds("`other`: 0 to 3, perhaps the same", () -> {
            CutStore x = small();
            x.copy(3, 1);
            Check.same("the last", x.copy(2, 3), 1);
            Check.same("the first", x.copy(2, 0), 3);
            Check.same("the same", x.copy(2, 2), 3);
            Check.hasPieces("the same stays", x, 2, "ab cd e");
            Check.same("with its owners", x.slot(0, 1), 2);
            Check.same("the same empty one", x.copy(3, 3) + x.drop(3) + x.copy(3, 3), 3);
        });
        Sentences.holds(PIECES, () -> {
            CutStore x = small();
            Check.same("none", x.copy(0, 2), 0);
            Check.same("one", x.copy(2, 1), 1);
            Check.put(x, 3, "abcdefgh");
            x.set(3, 1);
            Check.same("cut anew", x.copy(0, 3), 8);
            Check.same("the other one is not", x.text(3, 1), 4);
        });
        Sentences.holds(NO_TEXT, () -> {
            CutStore x = small();
            Check.refusesBeyond(x, "text", Check.PLACE, text -> x.copy(text, 0), -1, 4);
            Check.refusesBeyond(x, "other", Check.PLACE, other -> x.copy(0, other), -1, 4);
            Check.refuses(x, "both", Check.PLACE, () -> x.copy(4, 4));
        });
        Sentences.holds(REFUSED, () -> {
            CutStore x = Examples.withoutSlots();
            x.set(3, 3);
            Check.refuses(x, "too many slots", Check.STATE, () -> x.copy(3, 0));
            x.undo();
            Check.same("kept pieces are not", x.copy(3, 0), 20);
            CutStore y = Examples.withoutRoom();
            y.set(4, 19);
            Check.refuses(y, "too many signs", Check.STATE, () -> y.copy(3, 0));
            y.undo();
            Check.same("kept pieces are not", y.copy(3, 0), 2);
        });
    }

    private static void rotate() {
        Sentences.part("Promise 6: rotate");
        Sentences.holds("Moves the first signs of a text behind all its others.", () -> {
            CutStore x = Examples.evenly(2);
            Check.put(x, 0, "abcde");
            x.rotate(0, 1);
            Check.hasPieces("one", x, 0, "bc de a");
            x.rotate(0, 2);
            Check.hasPieces("two", x, 0, "de ab c");
            x.rotate(0, 4);
            Check.hasPieces("all but one", x, 0, "cd ea b");
            x.rotate(0, 5);
            Check.hasPieces("all", x, 0, "cd ea b");
            Check.put(x, 1, "h");
            x.rotate(1, 1);
            Check.hasPieces("the only one", x, 1, "h");
        });
        Sentences.holds("Undoable.", () -> {
            Check.undoes(small(), "rotate", "", x -> x.rotate(0, 1));
            Check.undoes(small(), "rotate", "", x -> x.rotate(0, 5));
        });
        Sentences.holds(PIECES, () -> {
            CutStore x = Examples.evenly(2);
            Check.put(x, 0, "abcde");
            Check.same("three", x.rotate(0, 3), 3);
            x.set(3, 1);
            Check.same("cut anew", x.rotate(0, 5), 5);
            Check.put(x, 1, "a");
            Check.same("one", x.rotate(1, 1), 1);
            Check.put(x, 1, Examples.FORTY);
            Check.same("forty", x.rotate(1, 1), 40);
        });
        Sentences.holds(REFUSED, () -> {
            CutStore x = Examples.withoutSlots();
            Check.put(x, 3, "ahha");
            Check.same("kept pieces are not", x.rotate(3, 2), 2);
            Check.refuses(x, "a slot too many", Check.STATE, () -> x.rotate(3, 1));
            CutStore y = Examples.withoutRoom();
            y.copy(3, 2);
            Check.refuses(y, "too many signs", Check.STATE, () -> y.rotate(2, 1));
        });
    }

    private static void rotateArguments() {
        Sentences.holds("`text`: 0 to 3", () -> {
            CutStore x = Examples.evenly(6);
            Check.put(x, 0, "abc");
            Check.put(x, 3, "def");
            x.rotate(0, 1);
            x.rotate(3, 1);
            Check.hasPieces("the first", x, 0, "bca");
            Check.hasPieces("the last", x, 3, "efd");
        });
        Sentences.holds("`many`: 1 to 40, at most as many as it has", () -> {
            CutStore x = Examples.evenly(6);
            Check.put(x, 0, "a9a9a9a9a3b");
            x.rotate(0, 40);
            Check.same("forty", x.sign(0, 39, 0), 2);
            x.rotate(0, 39);
            Check.same("39", x.sign(0, 0, 0), 2);
            x.rotate(0, 1);
            Check.same("one", x.sign(0, 39, 0), 2);
            Check.refusesEach(x, "many", Check.ARGUMENT, many -> x.rotate(0, many), 0, 41);
        });
        Sentences.holds(NO_TEXT, () -> {
            CutStore x = small();
            Check.refusesBeyond(x, "text", Check.PLACE, text -> x.rotate(text, 1), -1, 4);
        });
        Sentences.holds(MANY_IS_WRONG, () -> {
            CutStore x = small();
            Check.refusesBeyond(x, "many of five", Check.ARGUMENT, many -> x.rotate(0, many), -1, 0, 6, 40, 41);
            Check.refusesEach(x, "many of none", Check.ARGUMENT, many -> x.rotate(3, many), -1, 0, 1);
        });
    }

    private static void drop() {
        Sentences.part("Promise 7: drop");
        Sentences.holds("Makes a text empty (its pieces lose it).", () -> {
            CutStore x = Examples.evenly(2);
            Check.put(x, 0, "ababcab");
            Check.put(x, 1, "ababca");
            x.drop(0);
            for (int what = 0; what <= 5; what++) {
                Check.same("its number " + what, x.text(0, what), 0);
            }
            Check.same("lost as often as it was in it", x.slot(0, 1), 2);
            Check.same("not its piece any more", x.slot(0, 4), 2);
            Check.same("without owners", x.count(4), 1);
            Check.same("its pieces stay in the store", x.count(2), 3);
            Check.hasPieces("the others stay", x, 1, "ab ab ca");
            Check.same("nothing comes or is swept", x.count(7) + x.count(8), 3);
        });
        Sentences.holds("Undoable.", () -> {
            Check.undoes(small(), "drop", "", x -> x.drop(0));
            Check.undoes(small(), "drop", "", x -> x.drop(3));
            CutStore x = small();
            x.drop(1);
            x.undo();
            Check.same("its owners again", x.slot(1, 1), 2);
        });
        Sentences.holds("`text`: 0 to 3", () -> {
            CutStore x = small();
            x.copy(3, 1);
            Check.same("the first", x.drop(0), 5);
            Check.same("the last", x.drop(3), 2);
        });
        Sentences.holds("Returns how many signs it had.", () -> {
            CutStore x = small();
            Check.same("none", x.drop(3), 0);
            Check.same("five", x.drop(0), 5);
            Check.same("none any more", x.drop(0), 0);
            Check.put(x, 0, Examples.FORTY);
            Check.same("forty", x.drop(0), 40);
        });
        Sentences.holds(NO_TEXT, () -> {
            CutStore x = small();
            Check.refusesBeyond(x, "text", Check.PLACE, text -> x.drop(text), -1, 4);
        });
    }

    private static void sweep() {
        Sentences.part("Promise 8: sweep");
        Sentences.holds("Sweeps the store: all pieces without owners leave it.", () -> {
            CutStore x = small();
            Check.put(x, 1, "ef");
            x.sweep();
            Check.same("the one without owners leaves", x.slot(3, 0), CutStore.NONE);
            Check.same("those with owners stay", x.count(2), 4);
            Check.same("on their slots", x.piece(1, 0, 0), 4);
            Check.same("the size", x.count(3), 7);
            Check.same("none is without owners", x.count(4) + x.count(5), 0);
            Check.same("texts stay", x.count(0), 7);
            CutStore full = Examples.withoutSlots();
            full.drop(0);
            full.drop(2);
            full.sweep();
            Check.same("the first slot", full.slot(0, 0), CutStore.NONE);
            Check.same("the last slot", full.slot(59, 0), CutStore.NONE);
            Check.same("left", full.count(2), 20);
        });
        Sentences.holds("Undoable.", () -> {
            Check.undoes(small(), "sweep", "", x -> x.sweep());
            Check.undoes(new CutStore(), "sweep", "", x -> x.sweep());
        });
        Sentences.holds("Returns how many pieces are swept.", () -> {
            CutStore x = Examples.withoutSlots();
            Check.same("none without owners", x.sweep(), 0);
            x.drop(0);
            x.drop(1);
            x.drop(2);
            Check.same("all", x.sweep(), 60);
            Check.same("an empty store", x.sweep(), 0);
            Check.same("swept so far", x.count(8), 60);
            Check.same("one", Check.put(x, 0, "a") + x.drop(0) + 10 * x.sweep(), 12);
        });
    }

    private static void set() {
        Sentences.part("Promise 9: set");
        Sentences.holds("Changes a setting.", () -> {
            CutStore x = new CutStore();
            int[] values = {5, 9, 8, 1, 20};
            for (int setting = 0; setting <= 4; setting++) {
                x.set(setting, values[setting]);
            }
            for (int setting = 0; setting <= 4; setting++) {
                Check.same("setting " + setting, x.setting(setting), values[setting]);
            }
        });
        Sentences.holds("Undoable.", () -> {
            Check.undoes(small(), "set", "", x -> x.set(4, 6));
            Check.undoes(small(), "set", "", x -> x.set(0, 3));
        });
        Sentences.holds("`setting`: 0 to 4", () -> {
            CutStore x = new CutStore();
            Check.same("the first", x.set(0, 6), 3);
            Check.same("the last", x.set(4, 20), 10);
        });
        Sentences.holds("`value`: the new value", () -> {
            CutStore x = new CutStore();
            x.set(2, 0);
            Check.same("the same", x.setting(2), 0);
            x.set(2, 7);
            Check.same("another", x.setting(2), 7);
            x.set(1, 1);
            Check.same("a divisor below the rest", x.setting(1), 1);
            x.set(3, 6);
            x.set(4, 6);
            Check.same("a greatest length that is the least one", x.setting(4) - x.setting(3), 0);
        });
        Sentences.holds("Returns the previous value.", () -> {
            CutStore x = new CutStore();
            int[] first = {3, 4, 0, 2, 10};
            for (int setting = 0; setting <= 4; setting++) {
                Check.same("the first one of " + setting, x.set(setting, 6), first[setting]);
                Check.same("the one that was set", x.set(setting, 6), 6);
            }
        });
        Sentences.holds("Throws `IndexOutOfBoundsException` if there is no such setting", () -> {
            CutStore x = new CutStore();
            Check.refusesBeyond(x, "setting", Check.PLACE, setting -> x.set(setting, 6), -1, 5);
        });
        Sentences.holds("Throws `IllegalArgumentException` if value is out of range", () -> {
            CutStore x = new CutStore();
            int[] lowest = {1, 1, 0, 1, 6};
            int[] highest = {6, 9, 8, 6, 20};
            for (int each = 0; each <= 4; each++) {
                int setting = each;
                x.set(setting, lowest[setting]);
                x.set(setting, highest[setting]);
                Check.refusesBeyond(x, setting + " as", Check.ARGUMENT, value -> x.set(setting, value),
                        lowest[setting] - 1, highest[setting] + 1);
            }
        });
    }
}
