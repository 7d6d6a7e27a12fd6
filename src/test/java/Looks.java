import java.util.LinkedHashMap;
import java.util.Map;
import java.util.function.Supplier;

/**
 * All that calls tell of an object, part by part. Each look makes the object anew, for what a look asks and changes
 * would else stand in the next one's way, and an object answers 512 calls alone.
 */
final class Looks {
    static final String TABLE = "what undo takes back", AHEAD = "what comes of it", PAD = "the pad", HISTORY = "the history",
        SLOT_0 = "the slot 0", SLOT_1 = "the slot 1";

    private Looks() {
    }

    static Map<String, String> all(Supplier<SealedDeals> scene) {
        Map<String, String> parts = new LinkedHashMap<>();
        parts.put(TABLE, table(scene));
        parts.put(AHEAD, ahead(scene.get()));
        parts.put(PAD, pad(scene));
        parts.put(HISTORY, history(scene));
        parts.put(SLOT_0, slot(scene, 0));
        parts.put(SLOT_1, slot(scene, 1));
        return parts;
    }

    static String table(Supplier<SealedDeals> scene) {
        return tableSeen(scene.get()) + bentSeen(scene.get());
    }

    private static String tableSeen(SealedDeals x) {
        StringBuilder seen = new StringBuilder("counts");
        for (int what = 0; what < 12; what++) {
            seen.append(' ').append(x.count(what));
        }
        seen.append(" pack");
        for (int place = 0; place < 52; place++) {
            seen.append(' ').append(x.card(place));
        }
        for (int board = 0; board < 4; board++) {
            seen.append(" board");
            for (int what = 0; what < 5; what++) {
                seen.append(' ').append(x.board(board, what));
            }
            for (int card = 0; card < 52; card++) {
                seen.append(' ').append(x.holder(board, card));
            }
        }
        return seen.toString();
    }

    private static String bentSeen(SealedDeals x) {
        StringBuilder seen = new StringBuilder(" bent");
        int bent = x.count(3);
        for (int card = 0; card < 52; card++) {
            int then = x.bend(card);
            seen.append(then < bent ? " " + card : "");
            bent = then;
        }
        return seen.toString();
    }

    private static String ahead(SealedDeals x) {
        return x.worstBend() + " " + x.needed() + " " + x.ifRiffled(20, 1) + " " + x.shuffle() + " " + x.count(2);
    }

    /** What stands in a text with a fault cannot be asked; of one without a fault the cards can. */
    private static String pad(Supplier<SealedDeals> scene) {
        SealedDeals x = scene.get();
        String seen = x.count(12) + " fault " + x.fault() + " read " + x.read() + " then " + x.count(12);
        return seen + bentSeen(x);
    }

    private static String history(Supplier<SealedDeals> scene) {
        StringBuilder seen = new StringBuilder().append(scene.get().count(13));
        for (int changes = 1; changes <= 5; changes++) {
            int undos = changes;
            seen.append(" undone");
            SealedDeals x = scene.get();
            for (int change = 0; change < changes; change++) {
                seen.append(' ').append(x.undo());
            }
            seen.append(' ').append(tableSeen(x)).append(bentSeen(undone(scene, undos)));
        }
        return seen.toString();
    }

    static SealedDeals undone(Supplier<SealedDeals> scene, int changes) {
        SealedDeals x = scene.get();
        for (int change = 0; change < changes; change++) {
            x.undo();
        }
        return x;
    }

    private static String slot(Supplier<SealedDeals> scene, int slot) {
        SealedDeals x = scene.get();
        int answer = x.restore(slot);
        if (answer < 0) {
            return "restore " + answer;
        }
        SealedDeals other = scene.get();
        other.restore(slot);
        return "restore " + answer + " " + tableSeen(x) + bentSeen(other);
    }
}
