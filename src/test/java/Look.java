import java.util.List;
import java.util.function.Function;

/**
 * All that calls can tell of a field, as texts that can be held against one another. Each part
 * wants a field of its own: looking uses calls up, and some of it changes the field.
 */
final class Look {
    static final List<Function<FurrowField, String>> PARTS = List.of(
        Look::numbers, Look::plants, Look::behindUndo, Look::beds);

    private Look() {
    }

    static String trace(FurrowField f) {
        StringBuilder seen = new StringBuilder("trace");
        for (int i = 0; i < 17; i++) {
            seen.append(' ').append(f.trace(i));
        }
        return seen.toString();
    }

    /** THE LINE, and what is worked out of all PLANTS together. */
    static String numbers(FurrowField f) {
        StringBuilder seen = new StringBuilder("line");
        for (int k = 0; k < 3; k++) {
            seen.append(' ').append(f.lineAt(k)).append(" halves ").append(f.halves(k));
            for (int side = 0; side < 3; side++) {
                seen.append(" side ").append(f.side(k, side));
            }
        }
        for (int what = 0; what < 7; what++) {
            seen.append(" count ").append(f.count(what)).append(" layer ").append(f.layer(what + 1));
        }
        for (int what = 0; what < 5; what++) {
            seen.append(" deepest ").append(f.deepest(what));
        }
        for (int what = 0; what < 2; what++) {
            seen.append(" most ").append(f.most(what)).append(" widest ").append(f.widest(what));
        }
        seen.append(" depth ").append(f.depth(0, 0, 1)).append(' ').append(f.depth(7, 5, 2));
        int furrows = f.furrows();
        seen.append(" furrows ").append(furrows);
        for (int k = 0; k < furrows && k < 40; k++) {
            f.furrow(k);
            seen.append(' ').append(f.lineAt(0)).append(' ').append(f.lineAt(1)).append(' ').append(f.lineAt(2));
        }
        return seen.toString();
    }

    /** A COLOUR is seen by what RED and BLUE give. */
    static String plants(FurrowField f) {
        StringBuilder seen = new StringBuilder("plants");
        int given = f.count(1);
        for (int p = 0; p < given; p++) {
            seen.append(" plant ").append(p);
            for (int what = 0; what < 4; what++) {
                seen.append(' ').append(f.told(p, what)).append(' ').append(f.ask(p, what));
            }
        }
        return seen.toString();
    }

    static String behindUndo(FurrowField f) {
        return "undo " + f.undo() + " " + plants(f);
    }

    /** ITEMS are seen by planting them alone, so a full field must give a number back ahead. */
    static String beds(FurrowField f) {
        StringBuilder seen = new StringBuilder("beds");
        f.undo();
        for (int bed = 0; bed < 8; bed++) {
            seen.append(" bed ").append(bed);
            for (int i = 0; i < 12; i++) {
                int p = f.plant(bed, i, 0);
                seen.append(' ').append(p);
                if (p >= 0) {
                    seen.append(" at ").append(f.told(p, 0)).append(' ').append(f.told(p, 1));
                    f.undo();
                }
            }
            // Zero, but for the bits that tell one LANE from the other.
            seen.append(" lane ").append(f.copy(bed, 0, (bed + 1) % 8, 0, 0));
            seen.append(' ').append(f.set(bed, 0, (1L << 40) + (1L << 20)));
        }
        for (int bed = 0; bed < 8; bed++) {
            seen.append(" drop ").append(f.drop(bed));
        }
        return seen.toString();
    }
}
