/** The sentences of promises 14 to 20: looks. */
final class LookSentences {
    private static final String TEXTS = "`text`: 0 to 3";
    private static final String NUMBER = "Returns the number.";
    private static final String NO_TEXT = "Throws `IndexOutOfBoundsException` if there is no such text";
    private static final String WHAT_0_TO_4 = "Throws `IllegalArgumentException` if what is not 0 to 4";

    private LookSentences() {
    }

    static void tests() {
        sign();
        signWhats();
        piece();
        pieceWhats();
        slot();
        slotWhats();
        text();
        textWhats();
        common();
        commonWhats();
        count();
        setting();
    }

    private static void sign() {
        Sentences.part("Promise 14: sign");
        Sentences.holds("Returns something of a sign.", TEXTS, () -> {
            CutStore x = Examples.sharing();
            Check.same("of the first", x.sign(0, 2, 0), 3);
            Check.same("of the last", x.sign(3, 2, 0), 7);
            Check.same("nothing is changed", x.count(9), 6);
        });
        Sentences.holds("`place`: its place", NUMBER, () -> {
            CutStore x = new CutStore();
            Check.put(x, 0, "a9a9a9a9a2bc");
            Check.same("the first", x.sign(0, 0, 0), 1);
            Check.same("the last but one", x.sign(0, 38, 0), 2);
            Check.same("the last", x.sign(0, 39, 0), 3);
        });
        Sentences.holds("Throws `IndexOutOfBoundsException` if there is no such text or place", () -> {
            CutStore x = Examples.sharing();
            Check.refusesBeyond(x, "text", Check.PLACE, text -> x.sign(text, 0, 0), -1, 4);
            Check.refusesBeyond(x, "place", Check.PLACE, place -> x.sign(2, place, 0), -1, 2, 40);
            x.drop(2);
            Check.refusesEach(x, "place of an empty text", Check.PLACE, place -> x.sign(2, place, 0), -1, 0, 1);
            Check.put(x, 2, Examples.FORTY);
            Check.refusesEach(x, "place of forty", Check.PLACE, place -> x.sign(2, place, 0), 40, 41);
        });
        Sentences.holds("Throws `IllegalArgumentException` if what is not 0 to 3", () -> {
            CutStore x = Examples.sharing();
            Check.refusesBeyond(x, "what", Check.ARGUMENT, what -> x.sign(0, 0, what), -1, 4);
        });
    }

    private static void signWhats() {
        Sentences.holds("`what`: 0: its value; 1: the sum there, by setting 0 as it is; 2: the number of its piece in"
                + " the text; 3: 1 if its piece ends behind it, otherwise 0", () -> {
                    CutStore x = Examples.sharing();
                    int[][] due = {{1, 1, 0, 0}, {2, 4, 0, 1}, {3, 10, 1, 0}, {4, 16, 1, 1}, {1, 18, 2, 0}, {2, 16, 2, 1},
                        {5, 12, 3, 1}};
                    for (int place = 0; place <= 6; place++) {
                        for (int what = 0; what <= 3; what++) {
                            Check.same("place " + place + ", " + what, x.sign(0, place, what), due[place][what]);
                        }
                    }
                    x.set(0, 1);
                    Check.same("the sum of one", x.sign(0, 6, 1), 5);
                    Check.same("the piece stays", x.sign(0, 6, 2), 3);
                    x.set(0, 6);
                    Check.same("the sum of six", x.sign(0, 6, 1), 5 + 4 + 3 + 16 + 15 + 12);
                    Check.same("the sum of as many as there are", x.sign(0, 4, 1), 1 + 8 + 9 + 8 + 5);
                    x.set(3, 6);
                    Check.same("where it was cut, not where it would be", x.sign(0, 1, 3), 1);
                    fortyPieces();
                });
    }

    private static void fortyPieces() {
        CutStore x = Examples.evenly(1);
        Check.put(x, 0, Examples.FORTY);
        for (int place = 0; place <= 39; place++) {
            Check.same("piece of its own", x.sign(0, place, 2), place);
            Check.same("which ends", x.sign(0, place, 3), 1);
        }
        x.set(3, 6);
        Check.put(x, 0, Examples.FORTY);
        for (int place = 0; place <= 39; place++) {
            Check.same("piece of six", x.sign(0, place, 2), place / 6);
            Check.same("which ends", x.sign(0, place, 3), place % 6 == 5 || place == 39 ? 1 : 0);
        }
    }

    private static void piece() {
        Sentences.part("Promise 15: piece");
        Sentences.holds("Returns something of a piece of a text.", TEXTS, () -> {
            CutStore x = Examples.sharing();
            Check.same("of the first", x.piece(0, 0, 2), 2);
            Check.same("of the last", x.piece(3, 0, 2), 6);
        });
        Sentences.holds("`piece`: its number in the text, from 0", () -> {
            CutStore x = Examples.evenly(1);
            Check.put(x, 0, Examples.FORTY);
            Check.same("the first", x.piece(0, 0, 1), 0);
            Check.same("the last of forty", x.piece(0, 39, 1), 39);
        });
        Sentences.holds("Returns the number; NONE if there are not so many.", () -> {
            CutStore x = Examples.sharing();
            for (int what = 0; what <= 4; what++) {
                Check.same("the last, " + what, x.piece(0, 3, what) == CutStore.NONE ? 1 : 0, 0);
                Check.same("behind the last, " + what, x.piece(0, 4, what), CutStore.NONE);
                Check.same("far behind it, " + what, x.piece(0, 40, what), CutStore.NONE);
                Check.same("the greatest int, " + what, x.piece(0, Integer.MAX_VALUE, what), CutStore.NONE);
            }
            x.drop(0);
            Check.same("of an empty text", x.piece(0, 0, 0), CutStore.NONE);
        });
        Sentences.holds(NO_TEXT, () -> {
            CutStore x = Examples.sharing();
            Check.refusesBeyond(x, "text", Check.PLACE, text -> x.piece(text, 0, 0), -1, 4);
            Check.refusesBeyond(x, "text, of which there are not so many", Check.PLACE, text -> x.piece(text, 9, 0), -1, 4);
        });
        Sentences.holds("Throws `IllegalArgumentException` if piece is below 0, or what is not 0 to 4", () -> {
            CutStore x = Examples.sharing();
            Check.refusesEach(x, "piece", Check.ARGUMENT, piece -> x.piece(0, piece, 0), -1, -2, Integer.MIN_VALUE);
            Check.refusesBeyond(x, "what", Check.ARGUMENT, what -> x.piece(0, 0, what), -1, 5);
            Check.refusesEach(x, "what behind the last", Check.ARGUMENT, what -> x.piece(0, 4, what), -1, 5);
            Check.refusesEach(x, "piece of an empty text", Check.ARGUMENT, piece -> new CutStore().piece(0, piece, 0), -1);
        });
    }

    private static void pieceWhats() {
        Sentences.holds("`what`: 0: its slot; 1: its first place; 2: its length; 3: 1 if it was forced when the text"
                + " was cut, otherwise 0; 4: how many other texts have a piece with the same signs", () -> {
                    CutStore x = Examples.sharing();
                    int[][] due = {{0, 0, 2, 0, 2}, {1, 2, 2, 0, 1}, {0, 4, 2, 0, 2}, {2, 6, 1, 0, 0}};
                    for (int piece = 0; piece <= 3; piece++) {
                        for (int what = 0; what <= 4; what++) {
                            Check.same("piece " + piece + ", " + what, x.piece(0, piece, what), due[piece][what]);
                        }
                    }
                    x.set(2, 0);
                    x.copy(3, 0);
                    Check.same("in all other texts", x.piece(2, 0, 4), 3);
                    Check.same("a text counts once, not each time", x.piece(1, 0, 4), 3);
                    Check.same("the slot 59", Examples.withoutSlots().piece(2, 19, 0), 59);
                    forcedWhenItWasCut();
                });
    }

    private static void forcedWhenItWasCut() {
        CutStore x = Examples.byForce(6);
        Check.put(x, 0, "a9a4");
        x.set(4, 20);
        x.set(2, 0);
        Check.same("forced when it was cut", x.piece(0, 0, 3), 1);
        Check.same("and the next one", x.piece(0, 1, 3), 1);
        Check.same("the rest was not", x.piece(0, 2, 3), 0);
        x.set(3, 6);
        Check.put(x, 1, "a6");
        x.set(4, 6);
        x.set(2, 8);
        Check.same("not forced when it was cut", x.piece(1, 0, 3), 0);
        Check.same("the same signs, forced in the other text", x.piece(0, 0, 0) == x.piece(1, 0, 0) ? 1 : 0, 1);
        x.copy(2, 1);
        Check.same("forced when it was copied", x.piece(2, 0, 3), 1);
    }

    private static void slot() {
        Sentences.part("Promise 16: slot");
        Sentences.holds("Returns something of a slot of the store.", "`slot`: 0 to 59", () -> {
            CutStore x = Examples.withoutSlots();
            Check.same("the first", x.slot(0, 3), 1);
            Check.same("the last", x.slot(59, 3), 4);
        });
        Sentences.holds("Returns the number; NONE if the slot is free.", () -> {
            CutStore x = Examples.sharing();
            for (int what = 0; what <= 4; what++) {
                Check.same("the last one that is not free, " + what, x.slot(5, what) == CutStore.NONE ? 1 : 0, 0);
                Check.same("free, " + what, x.slot(6, what), CutStore.NONE);
                Check.same("the last, " + what, x.slot(59, what), CutStore.NONE);
                Check.same("of a new object, " + what, new CutStore().slot(0, what), CutStore.NONE);
            }
            x.drop(1);
            Check.same("without owners it is not free", x.slot(3, 1), 0);
            x.sweep();
            Check.same("swept", x.slot(3, 1), CutStore.NONE);
            Check.same("behind it", x.slot(4, 0), 6);
        });
        Sentences.holds("Throws `IndexOutOfBoundsException` if there is no such slot", () -> {
            CutStore x = Examples.withoutSlots();
            Check.refusesBeyond(x, "slot", Check.PLACE, slot -> x.slot(slot, 0), -1, 60);
        });
        Sentences.holds(WHAT_0_TO_4, () -> {
            CutStore x = Examples.sharing();
            Check.refusesBeyond(x, "what", Check.ARGUMENT, what -> x.slot(0, what), -1, 5);
            Check.refusesEach(x, "what of a free one", Check.ARGUMENT, what -> x.slot(59, what), -1, 5);
        });
    }

    private static void slotWhats() {
        Sentences.holds("`what`: 0: the length of its piece; 1: its owners; 2: the value of its first sign; 3: the"
                + " value of its last sign; 4: the texts that have it, as a mask", () -> {
                    CutStore x = Examples.sharing();
                    int[][] due = {{2, 4, 1, 2, 7}, {2, 2, 3, 4, 3}, {1, 1, 5, 5, 1}, {2, 1, 5, 6, 2}, {6, 1, 7, 8, 8},
                        {2, 1, 7, 8, 8}};
                    for (int slot = 0; slot <= 5; slot++) {
                        for (int what = 0; what <= 4; what++) {
                            Check.same("slot " + slot + ", " + what, x.slot(slot, what), due[slot][what]);
                        }
                    }
                    x.copy(3, 2);
                    Check.same("all texts", x.slot(0, 4), 15);
                    x.drop(1);
                    Check.same("the mask without owners", x.slot(3, 4), 0);
                    Check.same("the first sign without owners", x.slot(3, 2), 5);
                    twentySigns("hg9g9a", 8, 1);
                    twentySigns("ag9g9h", 1, 8);
                });
    }

    private static void twentySigns(String characters, int first, int last) {
        CutStore x = Examples.byForce(20);
        Check.put(x, 0, characters);
        Check.same("twenty signs", x.slot(0, 0), 20);
        Check.same("the first of twenty", x.slot(0, 2), first);
        Check.same("the last of twenty", x.slot(0, 3), last);
    }

    private static void text() {
        Sentences.part("Promise 17: text");
        Sentences.holds("Returns a number of a text.", TEXTS, () -> {
            CutStore x = Examples.sharing();
            Check.same("the first", x.text(0, 0), 7);
            Check.same("the last", x.text(3, 0), 8);
        });
        Sentences.holds(NUMBER, () -> {
            CutStore x = new CutStore();
            for (int what = 0; what <= 5; what++) {
                Check.same("of an empty text, " + what, x.text(3, what), 0);
            }
        });
        Sentences.holds(NO_TEXT, () -> {
            CutStore x = Examples.sharing();
            Check.refusesBeyond(x, "text", Check.PLACE, text -> x.text(text, 0), -1, 4);
        });
        Sentences.holds("Throws `IllegalArgumentException` if what is not 0 to 5", () -> {
            CutStore x = Examples.sharing();
            Check.refusesBeyond(x, "what", Check.ARGUMENT, what -> x.text(0, what), -1, 6);
        });
    }

    private static void textWhats() {
        Sentences.holds("`what`: 0: signs; 1: pieces; 2: unlike pieces; 3: forced pieces; 4: the length of its longest"
                + " piece, 0 without one; 5: signs in pieces that have no other owner than this text (once or more)", () -> {
                    CutStore x = Examples.sharing();
                    int[][] due = {{7, 4, 3, 0, 2, 1}, {6, 3, 3, 0, 2, 2}, {2, 1, 1, 0, 2, 0}, {8, 2, 2, 1, 6, 8}};
                    for (int text = 0; text <= 3; text++) {
                        for (int what = 0; what <= 5; what++) {
                            Check.same("text " + text + ", " + what, x.text(text, what), due[text][what]);
                        }
                    }
                    x.drop(1);
                    x.drop(2);
                    Check.same("a piece that it has twice and alone", x.text(0, 5), 7);
                    x.set(2, 0);
                    x.copy(1, 0);
                    Check.same("not alone any more", x.text(0, 5), 0);
                    Check.put(x, 3, "ghghgh");
                    Check.put(x, 3, "gh");
                    Check.same("once less than before", x.text(3, 5), 2);
                    CutStore y = Examples.byForce(20);
                    Check.put(y, 0, Examples.FORTY);
                    int[] alike = {40, 2, 1, 2, 20, 40};
                    for (int what = 0; what <= 5; what++) {
                        Check.same("forty alike, " + what, y.text(0, what), alike[what]);
                    }
                    Check.put(y, 0, "ab9b9b9");
                    Check.same("the longest is the first", y.text(0, 4), 20);
                    y.set(2, 0);
                    y.set(3, 6);
                    Check.put(y, 0, "a7");
                    Check.same("the longest is not the last", y.text(0, 4), 6);
                });
    }

    private static void common() {
        Sentences.part("Promise 18: common");
        Sentences.holds("Tells what two texts have in common.", "`one`: 0 to 3", () -> {
            CutStore x = Examples.sharing();
            x.set(2, 0);
            x.copy(3, 0);
            Check.same("the first", x.common(0, 1, 1), 6);
            Check.same("the last", x.common(3, 1, 1), 6);
            Check.same("another", x.common(1, 0, 1), 4);
        });
        Sentences.holds("`other`: 0 to 3", NUMBER, () -> {
            CutStore x = Examples.sharing();
            x.set(2, 0);
            x.copy(3, 0);
            Check.same("the first", x.common(1, 0, 0), 2);
            Check.same("the last", x.common(1, 3, 0), 2);
            Check.same("the same", x.common(1, 1, 0), 3);
        });
        Sentences.holds(NO_TEXT, () -> {
            CutStore x = Examples.sharing();
            Check.refusesBeyond(x, "one", Check.PLACE, one -> x.common(one, 0, 0), -1, 4);
            Check.refusesBeyond(x, "other", Check.PLACE, other -> x.common(0, other, 0), -1, 4);
        });
        Sentences.holds("Throws `IllegalArgumentException` if what is not 0 to 2", () -> {
            CutStore x = Examples.sharing();
            Check.refusesBeyond(x, "what", Check.ARGUMENT, what -> x.common(0, 1, what), -1, 3);
        });
    }

    private static void commonWhats() {
        Sentences.holds("`what`: 0: unlike pieces that both have; 1: signs of the first text that are in such pieces;"
                + " 2: pieces with which both begin, alike one by one, how many", () -> {
                    CutStore x = Examples.sharing();
                    int[][] due = {{0, 1, 2, 6, 2}, {1, 0, 2, 4, 2}, {0, 2, 1, 4, 1}, {2, 0, 1, 2, 1}, {1, 3, 0, 0, 0},
                        {0, 0, 3, 7, 4}, {3, 3, 2, 8, 2}};
                    for (int[] row : due) {
                        for (int what = 0; what <= 2; what++) {
                            Check.same(row[0] + " and " + row[1] + ", " + what, x.common(row[0], row[1], what), row[2 + what]);
                        }
                    }
                    CutStore y = Examples.evenly(2);
                    Check.put(y, 0, "abcdab");
                    Check.put(y, 1, "cdabcd");
                    Check.same("alike, but not at the begin", y.common(0, 1, 2), 0);
                    Check.same("signs of the first one", y.common(0, 1, 1), 6);
                    Check.put(y, 1, "abcdefab");
                    Check.same("up to the first unlike ones", y.common(0, 1, 2), 2);
                    Check.put(y, 1, "abc");
                    Check.same("like signs in unlike pieces", y.common(0, 1, 2), 1);
                    for (int what = 0; what <= 2; what++) {
                        Check.same("an empty one first, " + what, y.common(2, 0, what), 0);
                        Check.same("an empty one then, " + what, y.common(0, 2, what), 0);
                        Check.same("two empty ones, " + what, y.common(2, 3, what), 0);
                    }
                });
    }

    private static void count() {
        Sentences.part("Promise 19: count");
        Sentences.holds("Returns a number.", "`what`: 0: signs of all texts; 1: pieces of all texts; 2: pieces in the"
                + " store; 3: its size; 4: pieces without owners; 5: the sum of their lengths; 6: the greatest number"
                + " of owners of a piece, 0 without pieces; 7: pieces that came to the store so far; 8: pieces that"
                + " were swept so far; 9: saved states", () -> {
                    CutStore x = Examples.sharing();
                    countsAre(x, 23, 10, 6, 15, 0, 0, 4, 6, 0, 6);
                    x.drop(1);
                    x.drop(3);
                    countsAre(x, 9, 5, 6, 15, 3, 10, 3, 6, 0, 6);
                    x.sweep();
                    countsAre(x, 9, 5, 3, 5, 0, 0, 3, 6, 3, 6);
                    x.undo();
                    countsAre(x, 9, 5, 6, 15, 3, 10, 3, 6, 0, 5);
                    x.drop(0);
                    x.drop(2);
                    countsAre(x, 0, 0, 6, 15, 6, 15, 0, 6, 0, 6);
                    x.sweep();
                    countsAre(x, 0, 0, 0, 0, 0, 0, 0, 6, 6, 6);
                    x.set(2, 0);
                    Check.put(x, 0, "ab");
                    countsAre(x, 2, 1, 1, 2, 0, 0, 1, 7, 6, 6);
                    sweptByChanges();
                });
        Sentences.holds(NUMBER, () -> {
            countsAre(new CutStore(), 0, 0, 0, 0, 0, 0, 0, 0, 0, 0);
            CutStore x = Examples.evenly(1);
            Check.put(x, 0, Examples.FORTY);
            x.copy(1, 0);
            x.copy(2, 0);
            x.copy(3, 0);
            countsAre(x, 160, 160, 1, 1, 0, 0, 160, 1, 0, 6);
            countsAre(Examples.withoutSlots(), 120, 60, 60, 120, 0, 0, 1, 60, 0, 6);
            countsAre(Examples.withoutRoom(), 150, 8, 8, 150, 0, 0, 1, 8, 0, 6);
        });
        Sentences.holds("Throws `IllegalArgumentException` if what is not 0 to 9", () -> {
            CutStore x = Examples.sharing();
            Check.refusesBeyond(x, "what", Check.ARGUMENT, what -> x.count(what), -1, 10);
        });
    }

    private static void sweptByChanges() {
        CutStore x = Examples.withoutSlots();
        x.drop(0);
        Check.put(x, 3, "aahe");
        countsAre(x, 84, 42, 42, 84, 0, 0, 1, 61, 19, 6);
    }

    private static void countsAre(CutStore x, int... due) {
        for (int what = 0; what <= 9; what++) {
            Check.same("count " + what, x.count(what), due[what]);
        }
    }

    private static void setting() {
        Sentences.part("Promise 20: setting");
        Sentences.holds("Returns a setting.", "`setting`: 0 to 4", () -> {
            CutStore x = new CutStore();
            Check.same("the first", x.setting(0), 3);
            Check.same("the last", x.setting(4), 10);
        });
        Sentences.holds("Returns its value.", () -> {
            CutStore x = new CutStore();
            int[] first = {3, 4, 0, 2, 10};
            for (int setting = 0; setting <= 4; setting++) {
                Check.same("at first " + setting, x.setting(setting), first[setting]);
                x.set(setting, 6);
                Check.same("set " + setting, x.setting(setting), 6);
                x.undo();
                Check.same("undone " + setting, x.setting(setting), first[setting]);
            }
        });
        Sentences.holds("Throws `IndexOutOfBoundsException` if there is no such setting", () -> {
            CutStore x = new CutStore();
            Check.refusesBeyond(x, "setting", Check.PLACE, setting -> x.setting(setting), -1, 5);
        });
    }
}
