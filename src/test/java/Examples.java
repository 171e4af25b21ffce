/** Objects that several tests begin with. */
final class Examples {
    /** 20 pairs of signs each, all 60 of them unlike; "he", "hf", "hg" and "hh" are the pairs that are left. */
    static final String PAIRS_0 = "aaabacadaeafagahbabbbcbdbebfbgbhcacbcccd";
    static final String PAIRS_1 = "cecfcgchdadbdcdddedfdgdheaebecedeeefegeh";
    static final String PAIRS_2 = "fafbfcfdfefffgfhgagbgcgdgegfggghhahbhchd";

    /** As many signs as a text can have, all "a". */
    static final String FORTY = "a9a9a9a9a4";

    /** The values that the settings can have, and those of a new object. */
    static final int[] LOWEST = {1, 1, 0, 1, 6};
    static final int[] HIGHEST = {6, 9, 8, 6, 20};
    static final int[] FIRST = {3, 4, 0, 2, 10};

    private Examples() {
    }

    /** All pieces get so many signs, and end by their sums. */
    static CutStore evenly(int many) {
        CutStore x = new CutStore();
        Check.cutEvenly(x, many);
        return x;
    }

    /** All pieces get so many signs, 6 to 20, and are forced. */
    static CutStore byForce(int many) {
        CutStore x = new CutStore();
        Check.cutByForce(x, many);
        return x;
    }

    /** Three texts have all 60 slots, text 3 is empty; of the 150 signs of room 120 are used. */
    static CutStore withoutSlots() {
        CutStore x = evenly(2);
        Check.put(x, 0, PAIRS_0);
        Check.put(x, 1, PAIRS_1);
        Check.put(x, 2, PAIRS_2);
        return x;
    }

    /** All 150 signs of room are used, on the slots 0 to 7; text 3 has 20 "g" and 10 "h". */
    static CutStore withoutRoom() {
        CutStore x = byForce(20);
        Check.put(x, 0, "a9a9a2b9b9b2");
        Check.put(x, 1, "c9c9c2d9d9d2");
        Check.put(x, 2, "e9e9e2f9f9f2");
        Check.put(x, 3, "g9g9g2h9h");
        return x;
    }

    /** Text 0 is "ab cd ab e", text 1 "ab cd ef", text 2 "ab", text 3 "ghghgh gh" by force; no sum ends a piece. */
    static CutStore sharing() {
        CutStore x = evenly(2);
        Check.put(x, 0, "abcdabe");
        Check.put(x, 1, "abcdef");
        Check.put(x, 2, "ab");
        Check.cutByForce(x, 6);
        Check.put(x, 3, "ghghghgh");
        return x;
    }
}
