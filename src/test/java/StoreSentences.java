/** The sentences of the document's part "Store". */
final class StoreSentences {
    private static final String SWEEPS = "If the new pieces need more free slots, or more room, than there are (behind"
            + " the loss of owners), all pieces are swept that have no owners then and are none of the new ones; if"
            + " there are not enough slots or room then either, the change is refused, and nothing is changed.";

    private StoreSentences() {
    }

    static void tests() {
        store();
        sizeOfTheStore();
        sweepsForSlots();
        sweepsForRoom();
        refusals();
    }

    private static void store() {
        Sentences.part("Store");
        Sentences.holds("The store keeps pieces: each row of signs just once, on a slot, 0 to 59, with its owners.", () -> {
            CutStore x = Examples.evenly(2);
            Check.put(x, 0, "ababcdab");
            x.copy(1, 0);
            Check.same("rows", x.count(2), 2);
            Check.same("alike pieces have one slot", x.piece(1, 3, 0), x.piece(0, 0, 0));
            CutStore full = Examples.withoutSlots();
            for (int slot = 0; slot <= 59; slot++) {
                Check.same("the slot of piece " + slot, full.piece(slot / 20, slot % 20, 0), slot);
                Check.same("owners on slot " + slot, full.slot(slot, 1), 1);
            }
            rowsOfUnlikeLengths();
            rowsOfTwentySigns();
        });
        Sentences.holds("The owners of a piece are how many times it is in a text, of all texts together.", () -> {
            CutStore x = Examples.evenly(1);
            Check.put(x, 0, "aabaa");
            Check.same("in one text", x.slot(0, 1), 4);
            Check.put(x, 1, Examples.FORTY);
            x.copy(2, 1);
            x.copy(3, 1);
            Check.same("in all texts", x.slot(0, 1), 124);
            x.copy(0, 1);
            Check.same("the most owners", x.slot(0, 1), 160);
            Check.same("not any more", x.slot(1, 1), 0);
        });
        Sentences.holds("When a text changes, its old pieces lose it as an owner (each as often as it was in it), and"
                + " then its new ones, in their order, get it: a row of signs that the store keeps has its slot;"
                + " another one comes to the lowest free slot.", () -> {
                    losingAndGetting();
                    lowestFreeSlots();
                });
        Sentences.holds("A piece without owners stays in the store until it is swept.", () -> {
            CutStore x = Examples.evenly(2);
            Check.put(x, 0, "abcd");
            Check.put(x, 0, "cd");
            x.drop(0);
            Check.put(x, 1, "ef");
            Check.same("both stay", x.count(2), 3);
            Check.same("without owners", x.count(4), 2);
            Check.same("on its slot", x.slot(0, 0), 2);
            Check.same("no owners", x.slot(0, 1), 0);
            Check.same("swept", x.sweep(), 2);
            Check.same("gone", x.slot(0, 1), CutStore.NONE);
        });
    }

    private static void rowsOfUnlikeLengths() {
        CutStore x = Examples.byForce(20);
        for (int signs = 1; signs <= 16; signs++) {
            Check.put(x, 0, "aaaaaaaaaaaaaaaa".substring(0, signs));
            Check.same("rows", x.count(2), signs);
            Check.same("the length of the row", x.slot(signs - 1, 0), signs);
        }
    }

    private static void rowsOfTwentySigns() {
        CutStore x = Examples.byForce(20);
        Check.put(x, 0, "h9h9h2h9h9h2");
        Check.same("alike ones of twenty", x.count(2), 1);
        Check.put(x, 0, "dh9h9hh9h9h2");
        Check.same("unlike in the first sign", x.count(2), 2);
        Check.put(x, 0, "h9h9hgh9h9h2");
        Check.same("unlike in the last sign", x.count(2), 3);
        Check.put(x, 0, "h9dh9hh9h9h2");
        Check.same("unlike in the middle", x.count(2), 4);
    }

    private static void losingAndGetting() {
        CutStore x = Examples.evenly(2);
        Check.put(x, 0, "abababcd");
        Check.put(x, 1, "ab");
        Check.put(x, 0, "efcdef");
        Check.same("lost as often as it was in it", x.slot(0, 1), 1);
        Check.same("kept, lost once and got once", x.slot(1, 1), 1);
        Check.same("got as often as it is in it", x.slot(2, 1), 2);
        Check.same("a new one, behind the old ones", x.piece(0, 0, 0), 2);
        Check.same("a row that the store keeps", x.piece(0, 1, 0), 1);
        Check.same("came so far", x.count(7), 3);
        x.drop(1);
        Check.put(x, 3, "ghab");
        Check.same("a row without owners has its slot too", x.piece(3, 1, 0), 0);
        Check.same("and its new owner", x.slot(0, 1), 1);
    }

    private static void lowestFreeSlots() {
        CutStore x = Examples.evenly(2);
        Check.put(x, 0, "aabbccddee");
        Check.put(x, 0, "bbdd");
        x.sweep();
        Check.put(x, 1, "hhgghhffccddaa");
        int[] slots = {0, 2, 0, 4, 5, 3, 6};
        for (int piece = 0; piece < slots.length; piece++) {
            Check.same("in their order, piece " + piece, x.piece(1, piece, 0), slots[piece]);
        }
    }

    private static void sizeOfTheStore() {
        Sentences.holds("The size of the store is the sum of the lengths of all pieces that it keeps, also of those"
                + " without owners; it is at most 150.", () -> {
                    CutStore x = Examples.evenly(2);
                    Check.put(x, 0, "ababcde");
                    Check.same("alike ones count once", x.count(3), 5);
                    x.drop(0);
                    Check.same("without owners", x.count(3), 5);
                    CutStore full = Examples.withoutRoom();
                    Check.same("the greatest size", full.count(3), 150);
                    Check.type(full, "h");
                    Check.refuses(full, "151", Check.STATE, () -> full.insert(3, 30));
                    full.undo();
                    full.clearBuffer();
                    Check.type(full, "g9g9g2h9h2");
                    Check.refuses(full, "151 at once", Check.STATE, () -> full.put(3));
                });
    }

    /** 58 slots are used, 20 of them without owners; text 0 and text 3 are empty. */
    private static CutStore withTwoFreeSlots() {
        CutStore x = Examples.evenly(2);
        Check.put(x, 0, Examples.PAIRS_0);
        Check.put(x, 1, Examples.PAIRS_1);
        Check.put(x, 2, Examples.PAIRS_2.substring(0, 36));
        x.drop(0);
        return x;
    }

    private static void sweepsForSlots() {
        Sentences.holds(SWEEPS, () -> {
            CutStore x = withTwoFreeSlots();
            Check.put(x, 3, "hehfhehf");
            Check.same("as many slots as it needs", x.count(8), 0);
            Check.same("the last slot", x.piece(3, 3, 0), 59);
            x.undo();
            Check.put(x, 3, "hehfhhaahe");
            Check.same("a slot more than there are", x.count(8), 19);
            Check.same("all without owners are swept", x.count(4), 0);
            Check.same("one of the new ones stays on its slot", x.piece(3, 3, 0), 0);
            Check.same("and does not come anew", x.count(7), 61);
            Check.same("the others come to the free slots", x.piece(3, 0, 0), 1);
            Check.same("in their order", x.piece(3, 2, 0), 3);
            Check.same("those with owners stay", x.piece(1, 0, 0), 20);

            CutStore own = Examples.withoutSlots();
            Check.put(own, 2, "hehf");
            Check.same("what it was alone in is swept", own.count(8), 20);
            Check.same("the lowest of the free slots", own.piece(2, 1, 0), 41);
        });
    }

    /** 148 signs are kept, 40 of them without owners; text 0 is empty. */
    private static CutStore withTwoSignsOfRoom() {
        CutStore x = Examples.byForce(20);
        Check.put(x, 0, "a9a9a2b9b9b2");
        Check.put(x, 1, "c9c9c2d9d9d2");
        Check.put(x, 2, "e9e9e2f9f9f2");
        Check.put(x, 3, "g9g9g2h8");
        x.drop(0);
        return x;
    }

    private static void sweepsForRoom() {
        Sentences.holds(SWEEPS, () -> {
            CutStore x = withTwoSignsOfRoom();
            Check.put(x, 0, "h2");
            Check.same("as much room as it needs", x.count(8), 0);
            Check.same("the greatest size", x.count(3), 150);
            x.undo();
            Check.put(x, 0, "b9b9b2c");
            Check.same("one of the new ones that is kept needs no room", x.count(8), 0);
            x.undo();
            Check.put(x, 0, "b9b9b2h3");
            Check.same("a sign more than there is", x.count(8), 1);
            Check.same("one of the new ones stays", x.piece(0, 0, 0), 1);
            Check.same("the other one comes to the free slot", x.piece(0, 1, 0), 0);
            Check.same("the size then", x.count(3), 148 - 20 + 3);

            CutStore own = Examples.withoutRoom();
            Check.same("what it was alone in makes room", own.rotate(3, 1), 2);
            Check.same("both are swept", own.count(8), 2);
            Check.same("to the last sign", own.count(3), 150);
            CutStore alike = withTwoSignsOfRoom();
            alike.set(2, 0);
            Check.put(alike, 0, "h6");
            Check.same("alike new pieces", alike.text(0, 1), 3);
            Check.same("need room once", alike.count(8), 0);
        });
    }

    /** All slots are used, the last one has "hd" without owners; text 3 is "ab aa bb cc". */
    private static CutStore nearlyWithoutSlots() {
        CutStore x = Examples.withoutSlots();
        x.takeOut(2, 38, 2);
        Check.put(x, 3, "abaabbcc");
        return x;
    }

    /** 30 signs of room are left; text 3 is the same as text 2. */
    private static CutStore nearlyWithoutRoom() {
        CutStore x = Examples.byForce(20);
        Check.put(x, 0, "a9a9a2b9b9b2");
        Check.put(x, 1, "c9c9c2d9d9d2");
        Check.put(x, 2, "e9e9e2f9f9f2");
        x.copy(3, 2);
        return x;
    }

    private static void refusals() {
        Sentences.holds(SWEEPS, () -> {
            CutStore x = nearlyWithoutSlots();
            x.set(3, 3);
            Check.type(x, "hefhff");
            Check.refuses(x, "put without slots", Check.STATE, () -> x.put(3));
            Check.refuses(x, "insert without slots", Check.STATE, () -> x.insert(3, 0));
            Check.refuses(x, "takeOut without slots", Check.STATE, () -> x.takeOut(3, 0, 1));
            Check.refuses(x, "rotate without slots", Check.STATE, () -> x.rotate(3, 1));
            Check.refuses(x, "copy without slots", Check.STATE, () -> x.copy(3, 0));
            Check.same("nothing is swept", x.slot(59, 1), 0);
            Check.same("the buffer is not cleared", x.clearBuffer(), 6);
            Check.type(x, "hef");
            Check.same("with the one slot behind a sweep", x.put(3), 1);
            Check.same("it comes to that slot", x.piece(3, 0, 0), 59);

            CutStore y = nearlyWithoutRoom();
            y.set(4, 19);
            Check.type(y, "h");
            Check.refuses(y, "insert without room", Check.STATE, () -> y.insert(3, 0));
            Check.refuses(y, "takeOut without room", Check.STATE, () -> y.takeOut(3, 0, 1));
            Check.refuses(y, "rotate without room", Check.STATE, () -> y.rotate(3, 1));
            Check.refuses(y, "copy without room", Check.STATE, () -> y.copy(3, 0));
            Check.type(y, "9h9h9g4");
            Check.refuses(y, "put without room", Check.STATE, () -> y.put(3));
            y.clearBuffer();
            Check.type(y, "h9h9hg9g2");
            Check.same("with all the room", y.put(3), 2);
            Check.same("to the last sign", y.count(3), 150);
        });
    }
}
