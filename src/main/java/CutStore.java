/** A store that cuts texts into pieces, keeps each row of signs once, and counts its owners. */
public final class CutStore {
    public static final int NONE = -1;

    private static final int TEXTS = 4;
    private static final int MOST_SIGNS = 40;
    private static final int SLOTS = 60;
    private static final int MOST_ROOM = 150;
    private static final int MOST_SAVED = 6;
    private static final int MOST_CODES = 60;

    private static final int SETTINGS = 5;
    private static final int WINDOW = 0;
    private static final int DIVISOR = 1;
    private static final int REST = 2;
    private static final int LEAST = 3;
    private static final int GREATEST = 4;
    private static final int GREATEST_DIVISOR = 9;
    private static final int[] FIRST_VALUES = {3, 4, 0, 2, 10};
    private static final int[] LOWEST_VALUES = {1, 1, 0, 1, 6};
    private static final int[] HIGHEST_VALUES = {6, 9, 8, 6, 20};

    private final State state = new State();
    private final History history = new History();
    private final Buffer buffer = new Buffer();

    // Rows to work in, made once so that no call makes an object; they hold nothing between calls.
    private final State next = new State();
    private final Cut trial = new Cut();
    private final Settings otherSettings = new Settings();
    private final long[] seenRows = new long[TEXTS * MOST_SIGNS];

    public CutStore() {
    }

    // ---- texts

    public int put(int text) throws IndexOutOfBoundsException, IllegalArgumentException, IllegalStateException {
        requireText(text);
        requireCompleteBuffer();
        trial.clear();
        buffer.readInto(trial);
        int pieces = changeToTrial(text);
        buffer.clear();
        return pieces;
    }

    public int insert(int text, int place)
            throws IndexOutOfBoundsException, IllegalArgumentException, IllegalStateException {
        requireText(text);
        Cut old = state.cuts[text];
        if (place < 0 || place > old.length) {
            throw new IndexOutOfBoundsException("no such place");
        }
        requireCompleteBuffer();
        if (old.length + buffer.signs() > MOST_SIGNS) {
            throw new IllegalStateException("the text would have more than 40 signs");
        }
        trial.clear();
        trial.addSigns(old, 0, place);
        buffer.readInto(trial);
        trial.addSigns(old, place, old.length);
        int pieces = changeToTrial(text);
        buffer.clear();
        return pieces;
    }

    public int takeOut(int text, int place, int many)
            throws IndexOutOfBoundsException, IllegalArgumentException, IllegalStateException {
        requireText(text);
        Cut old = state.cuts[text];
        requirePlace(old, place);
        if (many < 1 || many > old.length - place) {
            throw new IllegalArgumentException("many is out of range");
        }
        trial.clear();
        trial.addSigns(old, 0, place);
        trial.addSigns(old, place + many, old.length);
        return changeToTrial(text);
    }

    public int copy(int text, int other) throws IndexOutOfBoundsException, IllegalStateException {
        requireText(text);
        requireText(other);
        trial.becomeSignsOf(state.cuts[other]);
        return changeToTrial(text);
    }

    public int rotate(int text, int many)
            throws IndexOutOfBoundsException, IllegalArgumentException, IllegalStateException {
        requireText(text);
        Cut old = state.cuts[text];
        if (many < 1 || many > old.length) {
            throw new IllegalArgumentException("many is out of range");
        }
        trial.clear();
        trial.addSigns(old, many, old.length);
        trial.addSigns(old, 0, many);
        return changeToTrial(text);
    }

    public int drop(int text) throws IndexOutOfBoundsException {
        requireText(text);
        Cut old = state.cuts[text];
        int had = old.length;
        history.push(state);
        state.store.loseOwner(old);
        old.clear();
        return had;
    }

    public int sweep() {
        history.push(state);
        trial.clear();
        return state.store.removeUnownedBut(trial);
    }

    public int set(int setting, int value) throws IndexOutOfBoundsException, IllegalArgumentException {
        requireSetting(setting);
        requireValue(setting, value);
        int previous = state.settings.values[setting];
        history.push(state);
        state.settings.values[setting] = value;
        return previous;
    }

    // ---- the buffer

    public int append(int code) throws IllegalArgumentException, IllegalStateException {
        if (code < 33 || code > 126) {
            throw new IllegalArgumentException("code is not 33 to 126");
        }
        if (buffer.length >= MOST_CODES) {
            throw new IllegalStateException("the buffer is full");
        }
        buffer.add(code);
        return buffer.length;
    }

    public int clearBuffer() {
        int had = buffer.length;
        buffer.clear();
        return had;
    }

    public int firstError() {
        return buffer.errorIndex();
    }

    public int undo() throws IllegalStateException {
        if (history.saved == 0) {
            throw new IllegalStateException("there is no saved state");
        }
        history.popInto(state);
        return history.saved;
    }

    // ---- looks

    public int sign(int text, int place, int what) throws IndexOutOfBoundsException, IllegalArgumentException {
        requireText(text);
        Cut cut = state.cuts[text];
        requirePlace(cut, place);
        requireWhat(what, 3);
        switch (what) {
            case 0:
                return cut.signs[place];
            case 1:
                return state.settings.sumAt(cut, place);
            case 2:
                return cut.pieceAt(place);
            default:
                return cut.endsBehind(place) ? 1 : 0;
        }
    }

    public int piece(int text, int piece, int what) throws IndexOutOfBoundsException, IllegalArgumentException {
        requireText(text);
        if (piece < 0) {
            throw new IllegalArgumentException("piece is below 0");
        }
        requireWhat(what, 4);
        Cut cut = state.cuts[text];
        if (piece >= cut.pieces) {
            return NONE;
        }
        switch (what) {
            case 0:
                return state.store.slotOf(cut.rows[piece]);
            case 1:
                return cut.starts[piece];
            case 2:
                return cut.lengths[piece];
            case 3:
                return cut.forced[piece];
            default:
                return Integer.bitCount(state.textsWith(cut.rows[piece])) - 1;
        }
    }

    public int slot(int slot, int what) throws IndexOutOfBoundsException, IllegalArgumentException {
        if (slot < 0 || slot >= SLOTS) {
            throw new IndexOutOfBoundsException("no such slot");
        }
        requireWhat(what, 4);
        Store store = state.store;
        if (store.isFree(slot)) {
            return NONE;
        }
        switch (what) {
            case 0:
                return store.lengths[slot];
            case 1:
                return store.owners[slot];
            case 2:
                return store.firstSign(slot);
            case 3:
                return store.lastSign(slot);
            default:
                return state.textsWith(store.rows[slot]);
        }
    }

    public int text(int text, int what) throws IndexOutOfBoundsException, IllegalArgumentException {
        requireText(text);
        requireWhat(what, 5);
        Cut cut = state.cuts[text];
        switch (what) {
            case 0:
                return cut.length;
            case 1:
                return cut.pieces;
            case 2:
                return cut.unlikePieces();
            case 3:
                return cut.forcedPieces();
            case 4:
                return cut.longestPiece();
            default:
                return state.signsOwnedAlone(text);
        }
    }

    public int common(int one, int other, int what) throws IndexOutOfBoundsException, IllegalArgumentException {
        requireText(one);
        requireText(other);
        requireWhat(what, 2);
        Cut first = state.cuts[one];
        Cut second = state.cuts[other];
        switch (what) {
            case 0:
                return first.unlikePiecesAlsoIn(second);
            case 1:
                return first.signsAlsoIn(second);
            default:
                return first.piecesBegunLike(second);
        }
    }

    public int count(int what) throws IllegalArgumentException {
        requireWhat(what, 9);
        Store store = state.store;
        switch (what) {
            case 0:
                return state.signs();
            case 1:
                return state.pieces();
            case 2:
                return store.pieces();
            case 3:
                return store.size();
            case 4:
                return store.unownedPieces();
            case 5:
                return store.unownedSize();
            case 6:
                return store.mostOwners();
            case 7:
                return store.came;
            case 8:
                return store.swept;
            default:
                return history.saved;
        }
    }

    public int setting(int setting) throws IndexOutOfBoundsException {
        requireSetting(setting);
        return state.settings.values[setting];
    }

    // ---- what would be

    public int ifPut(int text, int what) throws IndexOutOfBoundsException, IllegalArgumentException {
        requireText(text);
        requireWhat(what, 3);
        if (!buffer.isComplete()) {
            return NONE;
        }
        trial.clear();
        buffer.readInto(trial);
        trial.cutBy(state.settings);
        switch (what) {
            case 0:
                return trial.pieces;
            case 1:
                return state.store.slotsNeededBy(trial);
            case 2:
                return state.store.roomNeededBy(trial);
            default:
                return next.becomeChanged(state, text, trial) ? 0 : 1;
        }
    }

    public int ifSet(int text, int setting, int value) throws IndexOutOfBoundsException, IllegalArgumentException {
        requireText(text);
        requireSetting(setting);
        requireValue(setting, value);
        otherSettings.become(state.settings);
        otherSettings.values[setting] = value;
        trial.becomeSignsOf(state.cuts[text]);
        trial.cutBy(otherSettings);
        return trial.pieces;
    }

    public int bestDivisor() {
        int best = 1;
        int least = unlikeLengthsWith(1);
        for (int divisor = 2; divisor <= GREATEST_DIVISOR; divisor++) {
            int lengths = unlikeLengthsWith(divisor);
            if (lengths <= least) {
                least = lengths;
                best = divisor;
            }
        }
        return best;
    }

    public double savedShare() {
        int signs = state.signs();
        if (signs <= 0) {
            return 0.0;
        }
        int owned = state.store.size() - state.store.unownedSize();
        return 1.0 - (double) owned / (double) signs;
    }

    public long digest() {
        long hash = 2663;
        for (int what = 0; what <= 9; what++) {
            hash = mix(hash, count(what));
        }
        for (int setting = 0; setting < SETTINGS; setting++) {
            hash = mix(hash, setting(setting));
        }
        for (int text = 0; text < TEXTS; text++) {
            hash = mixText(hash, text);
        }
        for (int slot = 0; slot < SLOTS; slot++) {
            hash = mixSlot(hash, slot);
        }
        hash = mix(hash, bestDivisor());
        hash = mix(hash, bitsOfShare(savedShare()));
        hash = mix(hash, buffer.length);
        for (int index = 0; index < buffer.length; index++) {
            hash = mix(hash, buffer.codes[index]);
        }
        return hash;
    }

    // ---- what the calls need

    private static void requireText(int text) {
        if (text < 0 || text >= TEXTS) {
            throw new IndexOutOfBoundsException("no such text");
        }
    }

    private static void requirePlace(Cut cut, int place) {
        if (place < 0 || place >= cut.length) {
            throw new IndexOutOfBoundsException("no such place");
        }
    }

    private static void requireSetting(int setting) {
        if (setting < 0 || setting >= SETTINGS) {
            throw new IndexOutOfBoundsException("no such setting");
        }
    }

    private static void requireValue(int setting, int value) {
        if (value < LOWEST_VALUES[setting] || value > HIGHEST_VALUES[setting]) {
            throw new IllegalArgumentException("value is out of range");
        }
    }

    private static void requireWhat(int what, int greatest) {
        if (what < 0 || what > greatest) {
            throw new IllegalArgumentException("what is out of range");
        }
    }

    private void requireCompleteBuffer() {
        if (!buffer.isComplete()) {
            throw new IllegalArgumentException("the buffer is not a complete text");
        }
    }

    /** Lets the text become the signs in trial; throws, and changes nothing, if the store refuses them. */
    private int changeToTrial(int text) {
        trial.cutBy(state.settings);
        if (!next.becomeChanged(state, text, trial)) {
            throw new IllegalStateException("the store has not enough slots or room");
        }
        history.push(state);
        state.become(next);
        return trial.pieces;
    }

    private int unlikeLengthsWith(int divisor) {
        otherSettings.become(state.settings);
        otherSettings.values[DIVISOR] = divisor;
        int seen = 0;
        int lengths = 0;
        for (int text = 0; text < TEXTS; text++) {
            trial.becomeSignsOf(state.cuts[text]);
            trial.cutBy(otherSettings);
            for (int piece = 0; piece < trial.pieces; piece++) {
                long row = trial.rows[piece];
                if (seen < seenRows.length && !hasSeen(row, seen)) {
                    seenRows[seen] = row;
                    seen++;
                    lengths += trial.lengths[piece];
                }
            }
        }
        return lengths;
    }

    private boolean hasSeen(long row, int seen) {
        for (int index = 0; index < seen; index++) {
            if (seenRows[index] == row) {
                return true;
            }
        }
        return false;
    }

    private static long mix(long hash, long value) {
        return 31 * hash + value;
    }

    private long mixText(long hash, int text) {
        long mixed = hash;
        for (int what = 0; what <= 5; what++) {
            mixed = mix(mixed, text(text, what));
        }
        mixed = mixSigns(mixed, text);
        mixed = mixPieces(mixed, text);
        for (int what = 0; what <= 2; what++) {
            mixed = mix(mixed, common(text, 0, what));
        }
        for (int what = 0; what <= 3; what++) {
            mixed = mix(mixed, ifPut(text, what));
        }
        return mix(mixed, ifSet(text, DIVISOR, 2));
    }

    private long mixSigns(long hash, int text) {
        long mixed = hash;
        int signs = state.cuts[text].length;
        for (int place = 0; place < signs; place++) {
            for (int what = 0; what <= 3; what++) {
                mixed = mix(mixed, sign(text, place, what));
            }
        }
        return mixed;
    }

    private long mixPieces(long hash, int text) {
        long mixed = hash;
        int pieces = state.cuts[text].pieces;
        for (int piece = 0; piece < pieces; piece++) {
            for (int what = 0; what <= 4; what++) {
                mixed = mix(mixed, piece(text, piece, what));
            }
        }
        return mixed;
    }

    private long mixSlot(long hash, int slot) {
        if (state.store.isFree(slot)) {
            return hash;
        }
        long mixed = mix(hash, slot);
        for (int what = 0; what <= 4; what++) {
            mixed = mix(mixed, slot(slot, what));
        }
        return mixed;
    }

    /**
     * The bits of a share as Double.doubleToLongBits gives them, which LANGUAGE.md leaves out.
     * A share is 0.0, or from 1/160 to below 1.0, so that each step here is exact.
     */
    private static long bitsOfShare(double share) {
        if (!(share > 0.0)) {
            return 0L;
        }
        double scaled = share;
        long exponent = 1023L;
        while (scaled < 1.0 && exponent > 1L) {
            scaled = scaled * 2.0;
            exponent--;
        }
        return (exponent << 52) | (long) ((scaled - 1.0) * 4503599627370496.0);
    }

    /** The five settings, and what they say of sums. */
    private static final class Settings {
        final int[] values = FIRST_VALUES.clone();

        Settings() {
        }

        void become(Settings other) {
            System.arraycopy(other.values, 0, values, 0, SETTINGS);
        }

        int sumAt(Cut cut, int place) {
            int sum = 0;
            for (int back = 0; back < values[WINDOW] && back <= place; back++) {
                sum += cut.signs[place - back] * (back + 1);
            }
            return sum;
        }

        boolean endPieceAt(Cut cut, int place) {
            int divisor = values[DIVISOR];
            return divisor > 0 && sumAt(cut, place) % divisor == values[REST];
        }
    }

    /** The signs of a text, and the pieces that it was cut into. */
    private static final class Cut {
        final int[] signs = new int[MOST_SIGNS];
        int length = 0;
        final int[] starts = new int[MOST_SIGNS];
        final int[] lengths = new int[MOST_SIGNS];
        final int[] forced = new int[MOST_SIGNS];
        final long[] rows = new long[MOST_SIGNS];
        int pieces = 0;

        Cut() {
        }

        void clear() {
            length = 0;
            pieces = 0;
        }

        void addSign(int sign) {
            if (length < MOST_SIGNS) {
                signs[length] = sign;
                length++;
            }
        }

        void addSigns(Cut other, int begin, int end) {
            for (int place = begin; place < end && place < other.length; place++) {
                addSign(other.signs[place]);
            }
        }

        void becomeSignsOf(Cut other) {
            clear();
            addSigns(other, 0, other.length);
        }

        void become(Cut other) {
            length = other.length;
            pieces = other.pieces;
            System.arraycopy(other.signs, 0, signs, 0, MOST_SIGNS);
            System.arraycopy(other.starts, 0, starts, 0, MOST_SIGNS);
            System.arraycopy(other.lengths, 0, lengths, 0, MOST_SIGNS);
            System.arraycopy(other.forced, 0, forced, 0, MOST_SIGNS);
            System.arraycopy(other.rows, 0, rows, 0, MOST_SIGNS);
        }

        void cutBy(Settings settings) {
            pieces = 0;
            int start = 0;
            for (int place = 0; place < length; place++) {
                int many = place - start + 1;
                boolean bySum = many >= settings.values[LEAST] && settings.endPieceAt(this, place);
                boolean full = many >= settings.values[GREATEST];
                if (bySum || full || place == length - 1) {
                    addPiece(start, many, full && !bySum);
                    start = place + 1;
                }
            }
        }

        void addPiece(int start, int many, boolean isForced) {
            if (pieces < MOST_SIGNS) {
                starts[pieces] = start;
                lengths[pieces] = many;
                forced[pieces] = isForced ? 1 : 0;
                rows[pieces] = packed(start, many);
                pieces++;
            }
        }

        /**
         * A piece's signs as one number, so that alike pieces have the same one and no piece has 0:
         * a 1 to tell the length, then three bits a sign; 20 signs, the most of a piece, take 61 bits.
         */
        long packed(int start, int many) {
            long row = 1L;
            for (int place = start; place < start + many; place++) {
                row = (row << 3) | (signs[place] - 1);
            }
            return row;
        }

        int pieceAt(int place) {
            int piece = 0;
            while (piece < pieces - 1 && place >= starts[piece] + lengths[piece]) {
                piece++;
            }
            return piece;
        }

        boolean endsBehind(int place) {
            int piece = pieceAt(place);
            return piece < pieces && place == starts[piece] + lengths[piece] - 1;
        }

        boolean has(long row) {
            return hasAheadOf(pieces, row);
        }

        boolean hasAheadOf(int end, long row) {
            for (int piece = 0; piece < end && piece < pieces; piece++) {
                if (rows[piece] == row) {
                    return true;
                }
            }
            return false;
        }

        int unlikePieces() {
            return unlikePiecesAlsoIn(this);
        }

        int unlikePiecesAlsoIn(Cut other) {
            int many = 0;
            for (int piece = 0; piece < pieces; piece++) {
                if (!hasAheadOf(piece, rows[piece]) && other.has(rows[piece])) {
                    many++;
                }
            }
            return many;
        }

        int signsAlsoIn(Cut other) {
            int many = 0;
            for (int piece = 0; piece < pieces; piece++) {
                if (other.has(rows[piece])) {
                    many += lengths[piece];
                }
            }
            return many;
        }

        int piecesBegunLike(Cut other) {
            int many = 0;
            while (many < pieces && many < other.pieces && rows[many] == other.rows[many]) {
                many++;
            }
            return many;
        }

        int forcedPieces() {
            int many = 0;
            for (int piece = 0; piece < pieces; piece++) {
                many += forced[piece];
            }
            return many;
        }

        int longestPiece() {
            int longest = 0;
            for (int piece = 0; piece < pieces; piece++) {
                longest = Math.max(longest, lengths[piece]);
            }
            return longest;
        }
    }

    /** The slots; a free one has the row 0. */
    private static final class Store {
        final long[] rows = new long[SLOTS];
        final int[] lengths = new int[SLOTS];
        final int[] owners = new int[SLOTS];
        int came = 0;
        int swept = 0;

        Store() {
        }

        void become(Store other) {
            System.arraycopy(other.rows, 0, rows, 0, SLOTS);
            System.arraycopy(other.lengths, 0, lengths, 0, SLOTS);
            System.arraycopy(other.owners, 0, owners, 0, SLOTS);
            came = other.came;
            swept = other.swept;
        }

        boolean isFree(int slot) {
            return rows[slot] == 0L;
        }

        boolean isUnowned(int slot) {
            return rows[slot] != 0L && owners[slot] == 0;
        }

        /** The slot of a row, or the lowest free one for the row 0; NONE if there is none. */
        int slotOf(long row) {
            for (int slot = 0; slot < SLOTS; slot++) {
                if (rows[slot] == row) {
                    return slot;
                }
            }
            return NONE;
        }

        int firstSign(int slot) {
            return (int) (rows[slot] >> (3 * (lengths[slot] - 1)) & 7L) + 1;
        }

        int lastSign(int slot) {
            return (int) (rows[slot] & 7L) + 1;
        }

        void loseOwner(Cut cut) {
            for (int piece = 0; piece < cut.pieces; piece++) {
                int slot = slotOf(cut.rows[piece]);
                if (slot != NONE) {
                    owners[slot]--;
                }
            }
        }

        void getOwner(Cut cut) {
            for (int piece = 0; piece < cut.pieces; piece++) {
                int slot = slotOf(cut.rows[piece]);
                if (slot == NONE) {
                    slot = takeIn(cut.rows[piece], cut.lengths[piece]);
                }
                if (slot != NONE) {
                    owners[slot]++;
                }
            }
        }

        int takeIn(long row, int length) {
            int slot = slotOf(0L);
            if (slot != NONE) {
                rows[slot] = row;
                lengths[slot] = length;
                owners[slot] = 0;
                came++;
            }
            return slot;
        }

        int removeUnownedBut(Cut kept) {
            int removed = 0;
            for (int slot = 0; slot < SLOTS; slot++) {
                if (isUnowned(slot) && !kept.has(rows[slot])) {
                    rows[slot] = 0L;
                    removed++;
                }
            }
            swept += removed;
            return removed;
        }

        boolean hasRoomFor(Cut cut) {
            return slotsNeededBy(cut) <= SLOTS - pieces() && roomNeededBy(cut) <= MOST_ROOM - size();
        }

        int slotsNeededBy(Cut cut) {
            int needed = 0;
            for (int piece = 0; piece < cut.pieces; piece++) {
                if (!cut.hasAheadOf(piece, cut.rows[piece]) && slotOf(cut.rows[piece]) == NONE) {
                    needed++;
                }
            }
            return needed;
        }

        int roomNeededBy(Cut cut) {
            int needed = 0;
            for (int piece = 0; piece < cut.pieces; piece++) {
                if (!cut.hasAheadOf(piece, cut.rows[piece]) && slotOf(cut.rows[piece]) == NONE) {
                    needed += cut.lengths[piece];
                }
            }
            return needed;
        }

        int pieces() {
            int many = 0;
            for (int slot = 0; slot < SLOTS; slot++) {
                if (!isFree(slot)) {
                    many++;
                }
            }
            return many;
        }

        int size() {
            int size = 0;
            for (int slot = 0; slot < SLOTS; slot++) {
                if (!isFree(slot)) {
                    size += lengths[slot];
                }
            }
            return size;
        }

        int unownedPieces() {
            int many = 0;
            for (int slot = 0; slot < SLOTS; slot++) {
                if (isUnowned(slot)) {
                    many++;
                }
            }
            return many;
        }

        int unownedSize() {
            int size = 0;
            for (int slot = 0; slot < SLOTS; slot++) {
                if (isUnowned(slot)) {
                    size += lengths[slot];
                }
            }
            return size;
        }

        int mostOwners() {
            int most = 0;
            for (int slot = 0; slot < SLOTS; slot++) {
                if (!isFree(slot)) {
                    most = Math.max(most, owners[slot]);
                }
            }
            return most;
        }
    }

    /** All that undo brings back. */
    private static final class State {
        final Cut[] cuts = new Cut[TEXTS];
        final Store store = new Store();
        final Settings settings = new Settings();

        State() {
            for (int text = 0; text < TEXTS; text++) {
                cuts[text] = new Cut();
            }
        }

        void become(State other) {
            for (int text = 0; text < TEXTS; text++) {
                cuts[text].become(other.cuts[text]);
            }
            store.become(other.store);
            settings.become(other.settings);
        }

        /**
         * Becomes the state before with another cut of the text; answers false, and is of no use then,
         * if the store can't keep its pieces. The state before stays, so that a refusal changes nothing.
         */
        boolean becomeChanged(State before, int text, Cut cut) {
            become(before);
            store.loseOwner(cuts[text]);
            if (!store.hasRoomFor(cut)) {
                store.removeUnownedBut(cut);
            }
            if (!store.hasRoomFor(cut)) {
                return false;
            }
            store.getOwner(cut);
            cuts[text].become(cut);
            return true;
        }

        int textsWith(long row) {
            int mask = 0;
            for (int text = 0; text < TEXTS; text++) {
                if (cuts[text].has(row)) {
                    mask |= 1 << text;
                }
            }
            return mask;
        }

        int signsOwnedAlone(int text) {
            Cut cut = cuts[text];
            int many = 0;
            for (int piece = 0; piece < cut.pieces; piece++) {
                if (textsWith(cut.rows[piece]) == 1 << text) {
                    many += cut.lengths[piece];
                }
            }
            return many;
        }

        int signs() {
            int many = 0;
            for (int text = 0; text < TEXTS; text++) {
                many += cuts[text].length;
            }
            return many;
        }

        int pieces() {
            int many = 0;
            for (int text = 0; text < TEXTS; text++) {
                many += cuts[text].pieces;
            }
            return many;
        }
    }

    /** The saved states, the oldest one first. */
    private static final class History {
        final State[] states = new State[MOST_SAVED];
        int saved = 0;

        History() {
            for (int index = 0; index < MOST_SAVED; index++) {
                states[index] = new State();
            }
        }

        void push(State state) {
            if (saved >= MOST_SAVED) {
                dropOldest();
            }
            states[saved].become(state);
            saved++;
        }

        void dropOldest() {
            State oldest = states[0];
            for (int index = 1; index < MOST_SAVED; index++) {
                states[index - 1] = states[index];
            }
            states[MOST_SAVED - 1] = oldest;
            saved = MOST_SAVED - 1;
        }

        void popInto(State state) {
            if (saved > 0) {
                saved--;
                state.become(states[saved]);
            }
        }
    }

    /** The characters that are typed, and what text they are. */
    private static final class Buffer {
        final int[] codes = new int[MOST_CODES];
        int length = 0;

        Buffer() {
        }

        void clear() {
            length = 0;
        }

        void add(int code) {
            if (length < MOST_CODES) {
                codes[length] = code;
                length++;
            }
        }

        static boolean isLetter(int code) {
            return code >= 'a' && code <= 'h';
        }

        /** How many signs the character adds to the text; 0 if it can't stand there. */
        int signsAddedAt(int index) {
            int code = codes[index];
            if (isLetter(code)) {
                return 1;
            }
            boolean isNumber = code >= '2' && code <= '9';
            return isNumber && index > 0 && isLetter(codes[index - 1]) ? code - '1' : 0;
        }

        int errorIndex() {
            int signs = 0;
            for (int index = 0; index < length; index++) {
                int added = signsAddedAt(index);
                signs += added;
                if (added == 0 || signs > MOST_SIGNS) {
                    return index;
                }
            }
            return length;
        }

        boolean isComplete() {
            return length > 0 && errorIndex() == length;
        }

        int signs() {
            int signs = 0;
            for (int index = 0; index < length; index++) {
                signs += signsAddedAt(index);
            }
            return signs;
        }

        /** Only of use on a complete buffer. */
        void readInto(Cut cut) {
            int sign = 0;
            for (int index = 0; index < length; index++) {
                if (isLetter(codes[index])) {
                    sign = codes[index] - 'a' + 1;
                }
                int added = signsAddedAt(index);
                for (int time = 0; time < added; time++) {
                    cut.addSign(sign);
                }
            }
        }
    }
}
