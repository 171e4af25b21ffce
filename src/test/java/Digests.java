import java.util.function.Supplier;

/** What a digest is to be, by the answers of the other calls. */
final class Digests {
    private Digests() {
    }

    static long of(long hash, long... values) {
        long result = hash;
        for (long value : values) {
            result = 31 * result + value;
        }
        return result;
    }

    /** The characters are told, since no call shows them; each object answers few calls, since it may be used for 512. */
    static long byFace(Supplier<CutStore> maker, String characters) {
        Supplier<CutStore> typed = () -> {
            CutStore x = maker.get();
            Check.type(x, characters);
            return x;
        };
        long hash = ofCountsAndSettings(2663, typed.get());
        for (int text = 0; text <= 3; text++) {
            hash = ofText(hash, typed, text);
        }
        for (int slot = 0; slot <= 59; slot++) {
            hash = ofSlot(hash, typed.get(), slot);
        }
        CutStore x = typed.get();
        hash = of(hash, x.bestDivisor(), Double.doubleToLongBits(x.savedShare()), characters.length());
        for (int index = 0; index < characters.length(); index++) {
            hash = of(hash, characters.charAt(index));
        }
        return hash;
    }

    private static long ofCountsAndSettings(long before, CutStore x) {
        long hash = before;
        for (int what = 0; what <= 9; what++) {
            hash = of(hash, x.count(what));
        }
        for (int setting = 0; setting <= 4; setting++) {
            hash = of(hash, x.setting(setting));
        }
        return hash;
    }

    private static long ofText(long before, Supplier<CutStore> typed, int text) {
        long hash = before;
        CutStore x = typed.get();
        for (int what = 0; what <= 5; what++) {
            hash = of(hash, x.text(text, what));
        }
        for (int place = 0; place < x.text(text, 0); place++) {
            CutStore y = typed.get();
            hash = of(hash, y.sign(text, place, 0), y.sign(text, place, 1), y.sign(text, place, 2), y.sign(text, place, 3));
        }
        for (int piece = 0; piece < x.text(text, 1); piece++) {
            CutStore y = typed.get();
            hash = of(hash, y.piece(text, piece, 0), y.piece(text, piece, 1), y.piece(text, piece, 2),
                    y.piece(text, piece, 3), y.piece(text, piece, 4));
        }
        hash = of(hash, x.common(text, 0, 0), x.common(text, 0, 1), x.common(text, 0, 2));
        hash = of(hash, x.ifPut(text, 0), x.ifPut(text, 1), x.ifPut(text, 2), x.ifPut(text, 3));
        return of(hash, x.ifSet(text, 1, 2));
    }

    private static long ofSlot(long before, CutStore x, int slot) {
        if (x.slot(slot, 0) == CutStore.NONE) {
            return before;
        }
        return of(before, slot, x.slot(slot, 0), x.slot(slot, 1), x.slot(slot, 2), x.slot(slot, 3), x.slot(slot, 4));
    }
}
