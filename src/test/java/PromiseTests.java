import java.util.function.Supplier;

/** Each promise of the document by itself, with numbers worked out by hand from its words. */
public final class PromiseTests {
    private PromiseTests() {
    }

    private static void newObject() {
        CutStore x = new CutStore();
        for (int what = 0; what <= 9; what++) {
            Check.same("1: count(" + what + ")", x.count(what), 0);
        }
        int[] settings = {3, 4, 0, 2, 10};
        for (int setting = 0; setting <= 4; setting++) {
            Check.same("1: setting(" + setting + ")", x.setting(setting), settings[setting]);
        }
        for (int text = 0; text <= 3; text++) {
            Check.same("1: text", x.text(text, 0), 0);
            Check.same("1: piece", x.piece(text, 0, 0), CutStore.NONE);
        }
        for (int slot = 0; slot <= 59; slot++) {
            Check.same("1: slot", x.slot(slot, 0), -1);
        }
        Check.same("1: the buffer", x.clearBuffer(), 0);
        Check.same("1: NONE", CutStore.NONE, -1);
    }

    private static void cutting() {
        CutStore x = new CutStore();
        // The sums are 1 4 10 16 22 28: "ab", "cd" and "ef" end by theirs.
        Check.same("2: put", Check.put(x, 0, "abcdef"), 3);
        Check.hasPieces("2: cut by sums", x, 0, "ab cd ef");
        // 4 and 16 end "ab" and "cd"; the sum at "d" holds the "b" of the piece ahead of it, and is 10 without it.
        Check.put(x, 1, "abcde");
        Check.hasPieces("2: sums do not begin anew", x, 1, "ab cd e");
        Check.same("2: the sum that ends it", x.sign(1, 3, 1), 4 + 2 * 3 + 3 * 2);
        Check.cutByForce(x, 6);
        Check.put(x, 2, "a9a4");
        Check.hasPieces("2: the greatest length", x, 2, "aaaaaa aaaaaa a");
        Check.same("2: forced", x.piece(2, 1, 3), 1);
        Check.same("2: the rest is not forced", x.piece(2, 2, 3), 0);
        Check.put(x, 2, "a9a3");
        Check.same("2: the last one is forced too", x.piece(2, 1, 3), 1);
        Check.put(x, 2, "a7");
        Check.hasPieces("2: one sign is left", x, 2, "aaaaaa a");
        Check.hasPieces("2: settings don't cut again", x, 0, "ab cd ef");
        x.set(2, 0);
        x.set(3, 6);
        Check.put(x, 2, "a9a3");
        Check.same("2: by its sum at the greatest length", x.piece(2, 0, 3) + x.piece(2, 1, 3), 0);
    }

    private static void put() {
        CutStore x = new CutStore();
        Check.same("2: one sign", Check.put(x, 3, "h"), 1);
        Check.same("2: the buffer is cleared", x.clearBuffer(), 0);
        Check.same("2: saved", x.count(9), 1);
        Check.same("2: forty signs", Check.put(x, 0, "a9a9a9a9a4"), 4);
        Check.same("2: signs", x.text(0, 0), 40);
        Check.refuses(x, "2: empty buffer", Check.ARGUMENT, () -> x.put(0));
        Check.type(x, "ab1");
        Check.refuses(x, "2: wrong buffer", Check.ARGUMENT, () -> x.put(0));
        Check.refuses(x, "2: text 4 first", Check.PLACE, () -> x.put(4));
        Check.refuses(x, "2: text -1 first", Check.PLACE, () -> x.put(-1));
        Check.same("2: the buffer stays", x.clearBuffer(), 3);
    }

    private static void storeIsFull() {
        CutStore x = Examples.withoutSlots();
        Check.same("2: all slots", x.count(2), 60);
        Check.same("2: their size", x.count(3), 120);
        Check.same("2: kept rows need no slot", Check.put(x, 3, "aahd"), 2);
        Check.type(x, "he");
        Check.same("21: refused for slots", x.ifPut(3, 3), 1);
        Check.refuses(x, "2: refused for slots", Check.STATE, () -> x.put(3));
        x.drop(0);
        Check.same("21: fits behind a sweep", x.ifPut(3, 3), 0);
        x.put(3);
        Check.same("2: swept for slots", x.count(8), 20);
        Check.same("2: the lowest free slot", x.piece(3, 0, 0), 0);

        CutStore y = Examples.withoutRoom();
        Check.same("2: all the room", y.count(3), 150);
        Check.type(y, "g9g9g2a9a");
        Check.same("2: its own old pieces make room", y.put(3), 2);
        Check.same("2: swept to make room", y.count(8), 1);
        y.undo();
        Check.same("2: not swept any more", y.count(8), 0);
        Check.type(y, "g9g9g2h9h2");
        Check.same("21: one sign too many for the room", y.ifPut(3, 3), 1);
        Check.refuses(y, "2: one sign too many for the room", Check.STATE, () -> y.put(3));
        y.clearBuffer();
        Check.type(y, "h9h9h4g9g9");
        Check.refuses(y, "2: pieces with owners are not swept", Check.STATE, () -> y.put(3));
        Check.same("2: a refused buffer stays", y.clearBuffer(), 10);
    }

    private static void sweepWhenNeeded() {
        CutStore x = Examples.withoutRoom();
        x.drop(3);
        Check.same("2: unowned pieces stay", x.count(4), 2);
        Check.same("2: their lengths", x.count(5), 30);
        Check.put(x, 3, "g9g9g2");
        Check.same("2: back on its slot", x.piece(3, 0, 0), 6);
        Check.same("2: nothing is swept without need", x.count(8), 0);
        x.drop(3);
        Check.same("2: new and kept pieces", Check.put(x, 3, "g9g9g2a"), 2);
        Check.same("2: a kept one of the new ones is not swept", x.piece(3, 0, 0), 6);
        Check.same("2: the other one is", x.count(8), 1);
        Check.same("2: its slot is taken", x.piece(3, 1, 0), 7);
        Check.same("2: came so far", x.count(7), 9);
    }

    private static void owners() {
        CutStore x = new CutStore();
        Check.cutEvenly(x, 2);
        Check.put(x, 0, "abcdab");
        Check.put(x, 1, "efab");
        Check.same("2: owners", x.slot(0, 1), 3);
        Check.same("2: slots in order", x.piece(1, 0, 0), 2);
        Check.put(x, 0, "ghgh");
        Check.same("2: loses each", x.slot(0, 1), 1);
        Check.same("2: without owners", x.slot(1, 1), 0);
        Check.same("2: twice in a text", x.slot(3, 1), 2);
        Check.same("2: came once", x.count(7), 4);
        x.sweep();
        Check.put(x, 2, "hhcd");
        Check.same("2: the lowest free slot first", x.piece(2, 0, 0), 1);
        Check.same("2: then the next one", x.piece(2, 1, 0), 4);
    }

    private static void insert() {
        CutStore x = new CutStore();
        Check.cutEvenly(x, 2);
        Check.put(x, 0, "abcd");
        Check.type(x, "g3");
        Check.same("3: insert", x.insert(0, 1), 4);
        Check.hasPieces("3: ahead of a place", x, 0, "ag gg bc d");
        Check.same("3: the buffer is cleared", x.clearBuffer(), 0);
        Check.type(x, "e");
        Check.same("3: behind the last one", x.insert(0, 7), 4);
        Check.type(x, "f");
        Check.same("3: ahead of all", x.insert(0, 0), 5);
        Check.hasPieces("3: both ends", x, 0, "fa gg gb cd e");
        Check.type(x, "a9");
        Check.same("3: into an empty text", x.insert(1, 0), 5);
        Check.same("3: saved", x.count(9), 6);
        Check.refuses(x, "3: empty buffer", Check.ARGUMENT, () -> x.insert(0, 0));
        Check.type(x, "a9a9a9a4");
        Check.refuses(x, "3: place first", Check.PLACE, () -> x.insert(0, 10));
        Check.refuses(x, "3: place -1", Check.PLACE, () -> x.insert(0, -1));
        Check.refuses(x, "3: text first", Check.PLACE, () -> x.insert(4, 0));
        Check.refuses(x, "3: text -1", Check.PLACE, () -> x.insert(-1, 0));
        Check.same("3: forty signs", x.insert(0, 9), 20);
        Check.type(x, "a");
        Check.refuses(x, "3: more than forty", Check.STATE, () -> x.insert(0, 40));
        Check.type(x, "z");
        Check.refuses(x, "3: the buffer before the length", Check.ARGUMENT, () -> x.insert(0, 40));
        Check.refuses(x, "3: the place before the buffer", Check.PLACE, () -> x.insert(0, 41));
        CutStore full = Examples.withoutRoom();
        Check.type(full, "h");
        Check.refuses(full, "3: refused for room", Check.STATE, () -> full.insert(3, 30));
        CutStore slots = Examples.withoutSlots();
        Check.type(slots, "he");
        Check.refuses(slots, "3: refused for slots", Check.STATE, () -> slots.insert(3, 0));
    }

    private static void takeOut() {
        CutStore x = new CutStore();
        Check.cutEvenly(x, 2);
        Check.put(x, 0, "abcdef");
        Check.same("4: take out", x.takeOut(0, 1, 2), 2);
        Check.hasPieces("4: from the middle", x, 0, "ad ef");
        Check.same("4: the last one", x.takeOut(0, 3, 1), 2);
        Check.hasPieces("4: from the end", x, 0, "ad e");
        Check.refuses(x, "4: place behind the last one", Check.PLACE, () -> x.takeOut(0, 3, 1));
        Check.refuses(x, "4: place -1", Check.PLACE, () -> x.takeOut(0, -1, 1));
        Check.refuses(x, "4: text", Check.PLACE, () -> x.takeOut(4, 0, 0));
        Check.refuses(x, "4: text -1", Check.PLACE, () -> x.takeOut(-1, 0, 1));
        Check.refuses(x, "4: the place before many", Check.PLACE, () -> x.takeOut(0, 3, 0));
        Check.refuses(x, "4: none", Check.ARGUMENT, () -> x.takeOut(0, 0, 0));
        Check.refuses(x, "4: too many", Check.ARGUMENT, () -> x.takeOut(0, 1, 3));
        Check.refuses(x, "4: the greatest int", Check.ARGUMENT, () -> x.takeOut(0, 2, Integer.MAX_VALUE));
        Check.refuses(x, "4: the least int", Check.ARGUMENT, () -> x.takeOut(0, 2, Integer.MIN_VALUE));
        int saved = x.count(9);
        Check.same("4: all", x.takeOut(0, 0, 3), 0);
        Check.same("4: saved", x.count(9), Math.min(saved + 1, 6));
        Check.same("4: empty now", x.text(0, 0), 0);
        Check.refuses(x, "4: an empty text has no place", Check.PLACE, () -> x.takeOut(0, 0, 1));
        CutStore full = Examples.withoutSlots();
        Check.put(full, 3, "aaaa");
        full.set(3, 3);
        Check.refuses(full, "4: refused by the store", Check.STATE, () -> full.takeOut(3, 0, 1));
    }

    private static void copy() {
        CutStore x = new CutStore();
        Check.cutEvenly(x, 2);
        Check.put(x, 0, "abcde");
        Check.same("5: copy", x.copy(3, 0), 3);
        Check.hasPieces("5: the same", x, 3, "ab cd e");
        Check.hasPieces("5: the other one stays", x, 0, "ab cd e");
        Check.same("5: owners", x.slot(0, 1), 2);
        x.set(3, 3);
        Check.same("5: cut by the settings as they are", x.copy(1, 0), 2);
        Check.hasPieces("5: anew", x, 1, "abc de");
        Check.hasPieces("5: the other one is not cut again", x, 0, "ab cd e");
        Check.same("5: onto itself", x.copy(0, 0), 2);
        Check.hasPieces("5: itself, anew", x, 0, "abc de");
        Check.same("5: an empty one", x.copy(0, 2), 0);
        Check.same("5: saved also without a change", x.copy(0, 2) + x.count(9), 6);
        Check.refuses(x, "5: text 4", Check.PLACE, () -> x.copy(4, 0));
        Check.refuses(x, "5: text -1", Check.PLACE, () -> x.copy(-1, 0));
        Check.refuses(x, "5: other 4", Check.PLACE, () -> x.copy(0, 4));
        Check.refuses(x, "5: other -1", Check.PLACE, () -> x.copy(0, -1));
        CutStore full = Examples.withoutSlots();
        full.set(3, 3);
        Check.refuses(full, "5: refused by the store", Check.STATE, () -> full.copy(3, 0));
    }

    private static void rotate() {
        CutStore x = new CutStore();
        Check.cutEvenly(x, 2);
        Check.put(x, 0, "abcde");
        Check.same("6: rotate", x.rotate(0, 1), 3);
        Check.hasPieces("6: one", x, 0, "bc de a");
        Check.same("6: all but one", x.rotate(0, 4), 3);
        Check.hasPieces("6: back again", x, 0, "ab cd e");
        x.set(3, 5);
        Check.same("6: all of them", x.rotate(0, 5), 1);
        Check.hasPieces("6: the same signs, cut anew", x, 0, "abcde");
        Check.refuses(x, "6: text 4", Check.PLACE, () -> x.rotate(4, 0));
        Check.refuses(x, "6: text -1", Check.PLACE, () -> x.rotate(-1, 1));
        Check.refuses(x, "6: none", Check.ARGUMENT, () -> x.rotate(0, 0));
        Check.refuses(x, "6: more than it has", Check.ARGUMENT, () -> x.rotate(0, 6));
        Check.refuses(x, "6: an empty one", Check.ARGUMENT, () -> x.rotate(1, 1));
        Check.refuses(x, "6: -1", Check.ARGUMENT, () -> x.rotate(0, -1));
        int saved = x.count(9);
        x.undo();
        Check.same("6: saved", x.count(9), saved - 1);
        CutStore full = Examples.withoutSlots();
        Check.put(full, 3, "abaaba");
        full.set(3, 3);
        Check.refuses(full, "6: refused by the store", Check.STATE, () -> full.rotate(3, 1));
    }

    private static void drop() {
        CutStore x = new CutStore();
        Check.cutEvenly(x, 2);
        Check.put(x, 0, "ababc");
        Check.put(x, 1, "ab");
        Check.same("7: drop", x.drop(0), 5);
        Check.same("7: signs", x.text(0, 0), 0);
        Check.same("7: pieces", x.text(0, 1), 0);
        Check.same("7: loses each", x.slot(0, 1), 1);
        Check.same("7: the piece stays", x.slot(1, 1), 0);
        int saved = x.count(9);
        Check.same("7: an empty one", x.drop(0), 0);
        Check.same("7: saved all the same", x.count(9), Math.min(6, saved + 1));
        Check.refuses(x, "7: text 4", Check.PLACE, () -> x.drop(4));
        Check.refuses(x, "7: text -1", Check.PLACE, () -> x.drop(-1));
        x.undo();
        x.undo();
        Check.hasPieces("7: undone", x, 0, "ab ab c");
        Check.same("7: owners again", x.slot(0, 1), 3);
    }

    private static void sweep() {
        CutStore x = new CutStore();
        Check.cutEvenly(x, 2);
        Check.same("8: an empty store", x.sweep(), 0);
        Check.put(x, 0, "abcdef");
        Check.put(x, 0, "cd");
        Check.same("8: saved also without a change", x.count(9), 6);
        Check.same("8: sweep", x.sweep(), 2);
        Check.same("8: left", x.count(2), 1);
        Check.same("8: free", x.slot(0, 0), CutStore.NONE);
        Check.same("8: kept on its slot", x.slot(1, 0), 2);
        Check.same("8: counted", x.count(8), 2);
        Check.same("8: nothing is left to sweep", x.sweep(), 0);
        x.undo();
        x.undo();
        Check.same("8: undone", x.count(4), 2);
        Check.put(x, 3, "gh");
        x.drop(3);
        Check.same("8: the latest piece too", x.sweep(), 3);
        x.undo();
        x.undo();
        x.undo();
        Check.same("8: what was counted too", x.count(8), 0);
    }

    private static void set() {
        int[] lowest = {1, 1, 0, 1, 6};
        int[] highest = {6, 9, 8, 6, 20};
        int[] first = {3, 4, 0, 2, 10};
        CutStore x = new CutStore();
        for (int i = 0; i <= 4; i++) {
            int setting = i;
            Check.same("9: previous", x.set(setting, lowest[setting]), first[setting]);
            Check.same("9: highest", x.set(setting, highest[setting]), lowest[setting]);
            Check.same("20: setting", x.setting(setting), highest[setting]);
            Check.refuses(x, "9: too low", Check.ARGUMENT, () -> x.set(setting, lowest[setting] - 1));
            Check.refuses(x, "9: too high", Check.ARGUMENT, () -> x.set(setting, highest[setting] + 1));
        }
        Check.refuses(x, "9: setting 5", Check.PLACE, () -> x.set(5, -9));
        Check.refuses(x, "9: setting -1", Check.PLACE, () -> x.set(-1, 1));
        Check.refuses(x, "20: setting 5", Check.PLACE, () -> x.setting(5));
        Check.refuses(x, "20: setting -1", Check.PLACE, () -> x.setting(-1));
        Check.same("9: the same value", x.set(4, 20), 20);
        x.undo();
        x.undo();
        Check.same("9: undone", x.setting(4), 6);
    }

    private static void buffer() {
        CutStore x = new CutStore();
        Check.same("10: first", x.append(33), 1);
        Check.same("10: last", x.append(126), 2);
        Check.refuses(x, "10: 32", Check.ARGUMENT, () -> x.append(32));
        Check.refuses(x, "10: 127", Check.ARGUMENT, () -> x.append(127));
        for (int length = 3; length <= 60; length++) {
            Check.same("10: length", x.append('a'), length);
        }
        Check.refuses(x, "10: full", Check.STATE, () -> x.append('a'));
        Check.refuses(x, "10: the code first", Check.ARGUMENT, () -> x.append(0));
        Check.same("10: not undoable", x.count(9), 0);
        Check.same("11: clear", x.clearBuffer(), 60);
        Check.same("11: empty", x.clearBuffer(), 0);
        Check.same("11: not undoable", x.count(9), 0);
    }

    private static void errorAt(String characters, int index) {
        CutStore x = new CutStore();
        Check.type(x, characters);
        Check.same("12: firstError of '" + characters + "'", x.firstError(), index);
        boolean complete = !characters.isEmpty() && index == characters.length();
        Check.same("21: is '" + characters + "' a text", x.ifPut(0, 0) == CutStore.NONE ? 0 : 1, complete ? 1 : 0);
        if (!complete) {
            Check.refuses(x, "2: put of '" + characters + "'", Check.ARGUMENT, () -> x.put(0));
        }
    }

    private static void firstError() {
        errorAt("", 0);
        errorAt("abcdefgh", 8);
        errorAt("i", 0);
        errorAt("`", 0);
        errorAt("A", 0);
        errorAt("2a", 0);
        errorAt("a0", 1);
        errorAt("a1", 1);
        errorAt("a2h9", 4);
        errorAt("a:", 1);
        errorAt("a22", 2);
        errorAt("ab2c!d?", 4);
        errorAt("a9a9a9a9a4", 10);
        errorAt("a9a9a9a9a5", 9);
        errorAt("a9a9a9a9a4b", 10);
        errorAt("a9a9a9a9aaaa", 12);
        errorAt("a9a9a9a9aaaa2", 12);
        errorAt("abcdefghabcdefghabcdefghabcdefghabcdefgh", 40);
        errorAt("abcdefghabcdefghabcdefghabcdefghabcdefgha?", 40);
    }

    private static void undo() {
        CutStore x = new CutStore();
        Check.refuses(x, "13: none", Check.STATE, () -> x.undo());
        Check.put(x, 0, "abcd");
        Check.type(x, "xy");
        Check.same("13: left", x.undo(), 0);
        Check.same("13: came is counted back", x.count(7), 0);
        Check.same("13: the store", x.count(2), 0);
        Check.same("13: the text", x.text(0, 0), 0);
        Check.same("13: the buffer stays", x.clearBuffer(), 2);
        for (int value = 1; value <= 7; value++) {
            x.set(1, value);
        }
        Check.same("13: six at most", x.count(9), 6);
        for (int left = 5; left >= 0; left--) {
            Check.same("13: left", x.undo(), left);
            Check.same("13: settings too", x.setting(1), left + 1);
        }
        Check.refuses(x, "13: the oldest one is dropped", Check.STATE, () -> x.undo());
        x.set(1, 9);
        x.undo();
        x.set(0, 5);
        Check.same("13: saved anew", x.undo(), 0);
        Check.same("13: not the one that was dropped", x.setting(1), 1);
    }

    private static void sign() {
        CutStore x = new CutStore();
        Check.put(x, 1, "abcdef");
        int[][] due = {{1, 1, 0, 0}, {2, 4, 0, 1}, {3, 10, 1, 0}, {4, 16, 1, 1}, {5, 22, 2, 0}, {6, 28, 2, 1}};
        for (int place = 0; place < 6; place++) {
            for (int what = 0; what <= 3; what++) {
                Check.same("14: sign " + place + ", " + what, x.sign(1, place, what), due[place][what]);
            }
        }
        x.set(0, 1);
        Check.same("14: one sign together", x.sign(1, 5, 1), 6);
        x.set(0, 6);
        Check.same("14: six signs together", x.sign(1, 5, 1), 6 + 10 + 12 + 12 + 10 + 6);
        Check.same("14: as many as there are", x.sign(1, 1, 1), 4);
        Check.same("14: the cut stays", x.sign(1, 1, 3), 1);
        Check.refuses(x, "14: text 4", Check.PLACE, () -> x.sign(4, 0, 0));
        Check.refuses(x, "14: text -1", Check.PLACE, () -> x.sign(-1, 0, 0));
        Check.refuses(x, "14: place 6", Check.PLACE, () -> x.sign(1, 6, 4));
        Check.refuses(x, "14: place -1", Check.PLACE, () -> x.sign(1, -1, 0));
        Check.refuses(x, "14: an empty text", Check.PLACE, () -> x.sign(0, 0, 0));
        Check.refuses(x, "14: what 4", Check.ARGUMENT, () -> x.sign(1, 0, 4));
        Check.refuses(x, "14: what -1", Check.ARGUMENT, () -> x.sign(1, 0, -1));
    }

    private static void piece() {
        CutStore x = Examples.sharing();
        int[][] due = {{0, 0, 2, 0, 2}, {1, 2, 2, 0, 1}, {0, 4, 2, 0, 2}, {2, 6, 1, 0, 0}};
        for (int piece = 0; piece < 4; piece++) {
            for (int what = 0; what <= 4; what++) {
                Check.same("15: piece " + piece + ", " + what, x.piece(0, piece, what), due[piece][what]);
            }
        }
        Check.same("15: forced", x.piece(3, 0, 3), 1);
        Check.same("15: not forced", x.piece(3, 1, 3), 0);
        x.set(4, 20);
        Check.same("15: forced when it was cut", x.piece(3, 0, 3), 1);
        Check.same("15: not so many", x.piece(0, 4, 0), CutStore.NONE);
        Check.same("15: the greatest int", x.piece(0, Integer.MAX_VALUE, 4), CutStore.NONE);
        Check.refuses(x, "15: text 4", Check.PLACE, () -> x.piece(4, -1, 0));
        Check.refuses(x, "15: text -1", Check.PLACE, () -> x.piece(-1, 0, 0));
        Check.refuses(x, "15: piece -1", Check.ARGUMENT, () -> x.piece(0, -1, 0));
        Check.refuses(x, "15: what 5", Check.ARGUMENT, () -> x.piece(0, 0, 5));
        Check.refuses(x, "15: what -1", Check.ARGUMENT, () -> x.piece(0, 0, -1));
        Check.refuses(x, "15: what 5 ahead of NONE", Check.ARGUMENT, () -> x.piece(0, 40, 5));
    }

    private static void slot() {
        CutStore x = Examples.sharing();
        int[][] due = {{2, 4, 1, 2, 7}, {2, 2, 3, 4, 3}, {1, 1, 5, 5, 1}, {2, 1, 5, 6, 2}, {6, 1, 7, 8, 8},
            {2, 1, 7, 8, 8}, {-1, -1, -1, -1, -1}};
        for (int slot = 0; slot < due.length; slot++) {
            for (int what = 0; what <= 4; what++) {
                Check.same("16: slot " + slot + ", " + what, x.slot(slot, what), due[slot][what]);
            }
        }
        x.drop(1);
        Check.same("16: no text has it", x.slot(3, 4), 0);
        Check.same("16: the last slot", x.slot(59, 4), CutStore.NONE);
        Check.refuses(x, "16: slot 60", Check.PLACE, () -> x.slot(60, 5));
        Check.refuses(x, "16: slot -1", Check.PLACE, () -> x.slot(-1, 0));
        Check.refuses(x, "16: what 5", Check.ARGUMENT, () -> x.slot(0, 5));
        Check.refuses(x, "16: what -1", Check.ARGUMENT, () -> x.slot(59, -1));
        CutStore longest = new CutStore();
        Check.cutByForce(longest, 20);
        Check.put(longest, 0, "hg9g9a");
        Check.same("16: the first of twenty", longest.slot(0, 2), 8);
        Check.same("16: the last of twenty", longest.slot(0, 3), 1);
    }

    private static void text() {
        CutStore x = Examples.sharing();
        int[][] due = {{7, 4, 3, 0, 2, 1}, {6, 3, 3, 0, 2, 2}, {2, 1, 1, 0, 2, 0}, {8, 2, 2, 1, 6, 8}};
        for (int text = 0; text < 4; text++) {
            for (int what = 0; what <= 5; what++) {
                Check.same("17: text " + text + ", " + what, x.text(text, what), due[text][what]);
            }
        }
        x.drop(1);
        x.drop(2);
        Check.same("17: each time that it owns it alone", x.text(0, 5), 7);
        for (int what = 0; what <= 5; what++) {
            Check.same("17: an empty text", x.text(2, what), 0);
        }
        Check.refuses(x, "17: text 4", Check.PLACE, () -> x.text(4, 6));
        Check.refuses(x, "17: text -1", Check.PLACE, () -> x.text(-1, 0));
        Check.refuses(x, "17: what 6", Check.ARGUMENT, () -> x.text(0, 6));
        Check.refuses(x, "17: what -1", Check.ARGUMENT, () -> x.text(0, -1));
    }

    private static void common() {
        CutStore x = Examples.sharing();
        int[][] due = {{0, 1, 2, 6, 2}, {1, 0, 2, 4, 2}, {0, 2, 1, 4, 1}, {2, 0, 1, 2, 1}, {0, 3, 0, 0, 0},
            {0, 0, 3, 7, 4}, {3, 3, 2, 8, 2}};
        for (int[] row : due) {
            for (int what = 0; what <= 2; what++) {
                Check.same("18: common " + row[0] + ", " + row[1] + ", " + what, x.common(row[0], row[1], what),
                        row[2 + what]);
            }
        }
        x.drop(3);
        Check.same("18: empty texts", x.common(3, 3, 0) + x.common(3, 3, 1) + x.common(3, 0, 2), 0);
        Check.refuses(x, "18: one 4", Check.PLACE, () -> x.common(4, 0, 0));
        Check.refuses(x, "18: one -1", Check.PLACE, () -> x.common(-1, 0, 0));
        Check.refuses(x, "18: other 4", Check.PLACE, () -> x.common(0, 4, 3));
        Check.refuses(x, "18: other -1", Check.PLACE, () -> x.common(0, -1, 0));
        Check.refuses(x, "18: what 3", Check.ARGUMENT, () -> x.common(0, 0, 3));
        Check.refuses(x, "18: what -1", Check.ARGUMENT, () -> x.common(0, 0, -1));
    }

    private static void count() {
        CutStore x = Examples.sharing();
        x.drop(1);
        int[] due = {17, 7, 6, 15, 1, 2, 3, 6, 0, 6};
        for (int what = 0; what <= 9; what++) {
            Check.same("19: count " + what, x.count(what), due[what]);
        }
        x.sweep();
        Check.same("19: swept", x.count(8), 1);
        Check.same("19: came", x.count(7), 6);
        Check.same("19: size", x.count(3), 13);
        Check.refuses(x, "19: what 10", Check.ARGUMENT, () -> x.count(10));
        Check.refuses(x, "19: what -1", Check.ARGUMENT, () -> x.count(-1));
    }

    private static void ifPut() {
        CutStore x = Examples.sharing();
        Check.same("21: empty buffer", x.ifPut(0, 0), CutStore.NONE);
        x.set(2, 0);
        Check.type(x, "abghghabhh");
        long before = x.digest();
        Check.same("21: pieces", x.ifPut(0, 0), 5);
        Check.same("21: new ones", x.ifPut(0, 1), 1);
        Check.same("21: their lengths", x.ifPut(0, 2), 2);
        Check.same("21: not refused", x.ifPut(0, 3), 0);
        Check.same("21: nothing is changed", x.digest(), before);
        Check.type(x, "aaaab");
        Check.same("21: alike ones once", x.ifPut(1, 1), 3);
        Check.same("21: their lengths once", x.ifPut(1, 2), 5);
        Check.refuses(x, "21: text 4", Check.PLACE, () -> x.ifPut(4, 4));
        Check.refuses(x, "21: text -1", Check.PLACE, () -> x.ifPut(-1, 0));
        Check.refuses(x, "21: what 4", Check.ARGUMENT, () -> x.ifPut(0, 4));
        Check.refuses(x, "21: what -1", Check.ARGUMENT, () -> x.ifPut(0, -1));
        x.append('!');
        Check.same("21: not complete", x.ifPut(0, 3), CutStore.NONE);
        Check.refuses(x, "21: what ahead of NONE", Check.ARGUMENT, () -> x.ifPut(0, 4));
        CutStore full = Examples.withoutRoom();
        Check.type(full, "h9h9");
        Check.same("21: the text's own pieces make room", full.ifPut(0, 3), 0);
        Check.same("21: another's do too", full.ifPut(3, 3), 0);
        Check.type(full, "h2g9g9g2");
        Check.same("21: not enough room", full.ifPut(3, 3), 1);
        Check.same("21: what is not kept now, refused or not", full.ifPut(3, 2), 20);
    }

    private static void ifSet() {
        CutStore x = new CutStore();
        Check.put(x, 0, "abcdef");
        Check.same("22: as it is", x.ifSet(0, 3, 2), 3);
        Check.same("22: least length", x.ifSet(0, 3, 3), 2);
        Check.same("22: divisor", x.ifSet(0, 1, 1), 3);
        Check.same("22: rest", x.ifSet(0, 2, 8), 1);
        Check.same("22: signs of a sum", x.ifSet(0, 0, 1), 2);
        Check.same("22: greatest length", x.ifSet(0, 4, 6), 3);
        Check.same("22: an empty text", x.ifSet(3, 4, 6), 0);
        Check.same("22: not undoable", x.count(9), 1);
        Check.same("22: nothing is changed", x.setting(3), 2);
        Check.refuses(x, "22: text 4", Check.PLACE, () -> x.ifSet(4, 0, 0));
        Check.refuses(x, "22: text -1", Check.PLACE, () -> x.ifSet(-1, 0, 1));
        Check.refuses(x, "22: setting 5", Check.PLACE, () -> x.ifSet(0, 5, 1));
        Check.refuses(x, "22: setting -1", Check.PLACE, () -> x.ifSet(0, -1, 1));
        Check.refuses(x, "22: too low", Check.ARGUMENT, () -> x.ifSet(0, 0, 0));
        Check.refuses(x, "22: too high", Check.ARGUMENT, () -> x.ifSet(0, 4, 21));
    }

    private static void bestDivisor() {
        CutStore x = new CutStore();
        Check.same("23: without signs", x.bestDivisor(), 9);
        // With one sign a sum, divisor 1 to 4: "dd" four times; 5 to 9: no sum is 0, all eight signs together.
        x.set(0, 1);
        Check.put(x, 0, "d8");
        Check.same("23: the greatest of the best ones", x.bestDivisor(), 4);
        Check.put(x, 1, "d9d9d9d9d2");
        Check.same("23: texts together", x.bestDivisor(), 4);
        long before = x.digest();
        x.bestDivisor();
        Check.same("23: nothing is changed", x.digest(), before);
        x.set(1, 9);
        Check.same("23: the divisor as it is does not matter", x.bestDivisor(), 4);
        x.set(2, 4);
        Check.same("23: with the rest as it is", x.bestDivisor(), 9);
        // Divisor 1: "ba" four times; 2: "bab", "ab" twice, "a"; 3 to 9: all eight signs together.
        CutStore y = new CutStore();
        y.set(0, 1);
        Check.put(y, 0, "babababa");
        Check.same("23: the least divisor", y.bestDivisor(), 1);
        Check.put(y, 0, "abababab");
        Check.same("23: the next one, as good", y.bestDivisor(), 2);
    }

    private static void savedShare() {
        CutStore x = Examples.sharing();
        Check.same("24: shared", x.savedShare(), 1.0 - 15.0 / 23.0);
        x.drop(1);
        Check.same("24: without owners don't count", x.savedShare(), 1.0 - 13.0 / 17.0);
        for (int text = 0; text < 4; text++) {
            x.drop(text);
        }
        Check.same("24: without signs", x.savedShare(), 0.0);
        CutStore alone = new CutStore();
        Check.put(alone, 0, "abcdef");
        Check.same("24: nothing is shared", alone.savedShare(), 0.0);
        CutStore ones = new CutStore();
        Check.cutEvenly(ones, 1);
        Check.put(ones, 0, "a9a9a9a9a4");
        ones.copy(1, 0);
        ones.copy(2, 0);
        ones.copy(3, 0);
        Check.same("24: all alike", ones.savedShare(), 1.0 - 1.0 / 160.0);
    }

    private static void digestIsOf(Supplier<CutStore> maker, String characters) {
        CutStore x = maker.get();
        Check.type(x, characters);
        Check.same("25: digest with '" + characters + "' in the buffer", x.digest(), Digests.byFace(maker, characters));
    }

    private static CutStore withSmallShare() {
        CutStore x = Examples.withoutSlots();
        Check.put(x, 3, "aa");
        return x;
    }

    private static void digestOfMany() {
        digestIsOf(CutStore::new, "");
        digestIsOf(CutStore::new, "a9~");
        digestIsOf(Examples::sharing, "abcdab");
        digestIsOf(Examples::withoutSlots, Examples.PAIRS_1 + Examples.PAIRS_2.substring(0, 20));
        digestIsOf(Examples::withoutSlots, "hehh");
        digestIsOf(Examples::withoutRoom, "h9h9h2g9g9g2");
        digestIsOf(PromiseTests::withSmallShare, "!");
    }

    private static void digest() {
        CutStore x = new CutStore();
        Check.cutEvenly(x, 2);
        Check.put(x, 1, "aba");
        Check.put(x, 0, "ab");
        Check.type(x, "c!");
        long due = Digests.of(2663, 5, 3, 2, 3, 0, 0, 2, 2, 0, 5);
        due = Digests.of(due, 3, 1, 0, 2, 10);
        due = Digests.of(due, 2, 1, 1, 0, 2, 0, 1, 1, 0, 0, 2, 4, 0, 1, 0, 0, 2, 0, 1, 1, 2, 1, -1, -1, -1, -1, 1);
        due = Digests.of(due, 3, 2, 2, 0, 2, 1, 1, 1, 0, 0, 2, 4, 0, 1, 1, 8, 1, 1, 0, 0, 2, 0, 1, 1, 2, 1, 0, 0);
        due = Digests.of(due, 1, 2, 1, -1, -1, -1, -1, 2);
        due = Digests.of(due, 0, 0, 0, 0, 0, 0, 0, 0, 0, -1, -1, -1, -1, 0);
        due = Digests.of(due, 0, 0, 0, 0, 0, 0, 0, 0, 0, -1, -1, -1, -1, 0);
        due = Digests.of(due, 0, 2, 2, 1, 2, 3, 1, 1, 1, 1, 1, 2);
        due = Digests.of(due, 4, Double.doubleToLongBits(1.0 - 3.0 / 5.0), 2, 'c', '!');
        Check.same("25: digest", x.digest(), due);
        Check.same("25: nothing is changed", x.digest(), due);
        x.clearBuffer();
        Check.type(x, "ca");
        long other = x.digest();
        x.clearBuffer();
        Check.type(x, "cb");
        Check.same("25: the buffer counts", other == x.digest() ? 1 : 0, 0);
    }

    private static void objectsByThemselves() {
        CutStore one = new CutStore();
        CutStore other = new CutStore();
        Check.put(one, 0, "abc");
        Check.same("1: objects share nothing", other.digest(), new CutStore().digest());
    }

    public static void main(String[] args) {
        newObject();
        objectsByThemselves();
        cutting();
        put();
        storeIsFull();
        sweepWhenNeeded();
        owners();
        insert();
        takeOut();
        copy();
        rotate();
        drop();
        sweep();
        set();
        buffer();
        firstError();
        undo();
        sign();
        piece();
        slot();
        text();
        common();
        count();
        ifPut();
        ifSet();
        bestDivisor();
        savedShare();
        digest();
        digestOfMany();
        Check.finish("PromiseTests");
    }
}
