import java.util.Map;
import java.util.function.Supplier;
import java.util.function.ToIntFunction;

/**
 * Terms, CONVENTIONS: a call that returns an error changes nothing, and is not recorded in the history; and the calls
 * that the document tells to change nothing, or the pad or a slot alone, do so.
 */
public final class RefusedCallsTest {
    private static final int NO_SUCH = -1, BAD_VALUE = -2, BAD_TEXT = -3, TOO_MANY = -4, NOT_POSSIBLE = -5;
    private static final int LEAST = Integer.MIN_VALUE, GREATEST = Integer.MAX_VALUE;

    private final String name;
    private final Supplier<SealedDeals> scene;
    private final Map<String, String> before;

    private RefusedCallsTest(String name, Supplier<SealedDeals> scene) {
        this.name = name;
        this.scene = scene;
        before = Looks.all(scene);
    }

    public static void main(String[] args) {
        RefusedCallsTest fresh = new RefusedCallsTest("a new object", Scenes::fresh);
        RefusedCallsTest busy = new RefusedCallsTest("in the midst", Scenes::busy);
        RefusedCallsTest full = new RefusedCallsTest("all full", Scenes::full);
        for (RefusedCallsTest each : new RefusedCallsTest[] {fresh, busy, full}) {
            each.changesOutOfRange();
            each.questionsOutOfRange();
            each.textsOutOfRange();
            each.slotsOutOfRange();
            each.questions();
            each.whatIfs();
            each.padAlone();
            each.slotAlone();
        }
        fresh.refusedWhenNew();
        busy.refusedInTheMidst();
        full.refusedWhenFull();
        Due.finish();
    }

    private void refused(int promise, String call, int error, ToIntFunction<SealedDeals> calling) {
        Due.sentence("Promise " + promise + ", a refused call changes nothing, " + name, fresh -> {
            Due.is(call, error, calling.applyAsInt(scene.get()));
            leaves(call, calling, "");
        });
    }

    private void changesNothing(int promise, String call, ToIntFunction<SealedDeals> calling) {
        Due.sentence("Promise " + promise + ", nothing changes, " + name, fresh -> leaves(call, calling, ""));
    }

    private void leaves(String call, ToIntFunction<SealedDeals> calling, String allBut) {
        Map<String, String> behind = Looks.all(() -> {
            SealedDeals x = scene.get();
            calling.applyAsInt(x);
            return x;
        });
        for (Map.Entry<String, String> part : before.entrySet()) {
            if (!part.getKey().equals(allBut)) {
                Due.holds(call + " leaves " + part.getKey(), part.getValue().equals(behind.get(part.getKey())));
            }
        }
    }

    private void changesOutOfRange() {
        refused(2, "set(-1, 3)", BAD_VALUE, x -> x.set(-1, 3));
        refused(2, "set(2, 3)", BAD_VALUE, x -> x.set(2, 3));
        refused(2, "set(0, -1)", BAD_VALUE, x -> x.set(0, -1));
        refused(2, "set(0, 52)", BAD_VALUE, x -> x.set(0, 52));
        refused(2, "set(1, 0)", BAD_VALUE, x -> x.set(1, 0));
        refused(2, "set(1, 10)", BAD_VALUE, x -> x.set(1, 10));
        refused(2, "set(MIN, MAX)", BAD_VALUE, x -> x.set(LEAST, GREATEST));
        refused(3, "seed(-1)", BAD_VALUE, x -> x.seed(-1));
        refused(3, "seed(MIN)", BAD_VALUE, x -> x.seed(LEAST));
        refused(4, "bend(-1)", NO_SUCH, x -> x.bend(-1));
        refused(4, "bend(52)", NO_SUCH, x -> x.bend(52));
        refused(7, "cut(0)", BAD_VALUE, x -> x.cut(0));
        refused(7, "cut(52)", BAD_VALUE, x -> x.cut(52));
        refused(9, "deal(-1)", NO_SUCH, x -> x.deal(-1));
        refused(9, "deal(4)", NO_SUCH, x -> x.deal(4));
        refused(10, "seal(-1)", NO_SUCH, x -> x.seal(-1));
        refused(10, "seal(4)", NO_SUCH, x -> x.seal(4));
        refused(11, "open(-1)", NO_SUCH, x -> x.open(-1));
        refused(11, "open(4)", NO_SUCH, x -> x.open(4));
    }

    private void questionsOutOfRange() {
        refused(12, "card(-1)", NO_SUCH, x -> x.card(-1));
        refused(12, "card(52)", NO_SUCH, x -> x.card(52));
        refused(13, "placeOf(-1)", NO_SUCH, x -> x.placeOf(-1));
        refused(13, "placeOf(52)", NO_SUCH, x -> x.placeOf(52));
        refused(14, "holder(-1, 0)", NO_SUCH, x -> x.holder(-1, 0));
        refused(14, "holder(4, 0)", NO_SUCH, x -> x.holder(4, 0));
        refused(14, "holder(0, -1)", NO_SUCH, x -> x.holder(0, -1));
        refused(14, "holder(0, 52)", NO_SUCH, x -> x.holder(0, 52));
        refused(15, "hand(4, 0, 0)", NO_SUCH, x -> x.hand(4, 0, 0));
        refused(15, "hand(0, 4, 0)", NO_SUCH, x -> x.hand(0, 4, 0));
        refused(15, "hand(0, 0, 7)", BAD_VALUE, x -> x.hand(0, 0, 7));
        refused(16, "board(4, 0)", NO_SUCH, x -> x.board(4, 0));
        refused(16, "board(0, 5)", BAD_VALUE, x -> x.board(0, 5));
        refused(17, "count(-1)", BAD_VALUE, x -> x.count(-1));
        refused(17, "count(14)", BAD_VALUE, x -> x.count(14));
        refused(18, "alike(0, 4)", NO_SUCH, x -> x.alike(0, 4));
        refused(18, "alike(-1, 0)", NO_SUCH, x -> x.alike(-1, 0));
        refused(19, "ifRiffled(0, 0)", BAD_VALUE, x -> x.ifRiffled(0, 0));
        refused(19, "ifRiffled(21, 1)", BAD_VALUE, x -> x.ifRiffled(21, 1));
        refused(19, "ifRiffled(20, 2)", BAD_VALUE, x -> x.ifRiffled(20, 2));
        refused(19, "ifRiffled(1, -1)", BAD_VALUE, x -> x.ifRiffled(1, -1));
    }

    private void textsOutOfRange() {
        refused(22, "put(0)", BAD_VALUE, x -> x.put(0));
        refused(22, "put(32)", BAD_VALUE, x -> x.put(32));
        refused(22, "put(127)", BAD_VALUE, x -> x.put(127));
        refused(22, "put of a good one behind a bad one", BAD_VALUE, x -> x.put(32L << 8 | 'c'));
        refused(22, "put of a bad one behind a good one", BAD_VALUE, x -> x.put((long) 'c' << 8 | 32));
        refused(22, "put of a gap", BAD_VALUE, x -> x.put((long) 'c' << 16 | '2'));
        refused(22, "put(-1)", BAD_VALUE, x -> x.put(-1));
    }

    private void slotsOutOfRange() {
        refused(26, "save(-1)", BAD_VALUE, x -> x.save(-1));
        refused(26, "save(2)", BAD_VALUE, x -> x.save(2));
        refused(26, "save(MIN)", BAD_VALUE, x -> x.save(LEAST));
        refused(26, "save(MAX)", BAD_VALUE, x -> x.save(GREATEST));
        refused(27, "restore(-1)", BAD_VALUE, x -> x.restore(-1));
        refused(27, "restore(2)", BAD_VALUE, x -> x.restore(2));
        refused(27, "restore(MIN)", BAD_VALUE, x -> x.restore(LEAST));
        refused(27, "restore(MAX)", BAD_VALUE, x -> x.restore(GREATEST));
    }

    private void refusedWhenNew() {
        refused(5, "read(), the pad is empty", BAD_TEXT, x -> x.read());
        refused(9, "deal(0), not certified", NOT_POSSIBLE, x -> x.deal(0));
        refused(10, "seal(0), no cards", NOT_POSSIBLE, x -> x.seal(0));
        refused(10, "seal(3), no cards", NOT_POSSIBLE, x -> x.seal(3));
        refused(11, "open(0), no cards", NOT_POSSIBLE, x -> x.open(0));
        refused(11, "open(3), no cards", NOT_POSSIBLE, x -> x.open(3));
        refused(25, "undo(), the history is empty", NOT_POSSIBLE, x -> x.undo());
        refused(27, "restore(0), the slot is empty", NOT_POSSIBLE, x -> x.restore(0));
        refused(27, "restore(1), the slot is empty", NOT_POSSIBLE, x -> x.restore(1));
    }

    private void refusedInTheMidst() {
        refused(9, "deal(0), it is sealed", NOT_POSSIBLE, x -> x.deal(0));
        refused(10, "seal(0), it is sealed", NOT_POSSIBLE, x -> x.seal(0));
        refused(10, "seal(3), no cards", NOT_POSSIBLE, x -> x.seal(3));
        refused(11, "open(1), it is opened", NOT_POSSIBLE, x -> x.open(1));
        refused(11, "open(2), it was never sealed", NOT_POSSIBLE, x -> x.open(2));
        refused(11, "open(3), no cards", NOT_POSSIBLE, x -> x.open(3));
        refused(27, "restore(1), the slot is empty", NOT_POSSIBLE, x -> x.restore(1));
        RefusedCallsTest faulty = new RefusedCallsTest("with a fault in the pad", () -> {
            SealedDeals x = Scenes.busy();
            x.put(Given.packed(",s"));
            return x;
        });
        faulty.refused(5, "read(), the text ends too early", BAD_TEXT, x -> x.read());
        RefusedCallsTest undone = new RefusedCallsTest("with all four changes taken back", () -> {
            SealedDeals x = Scenes.busy();
            for (int change = 0; change < 4; change++) {
                x.undo();
            }
            return x;
        });
        undone.refused(25, "undo(), the history is empty", NOT_POSSIBLE, x -> x.undo());
    }

    private void refusedWhenFull() {
        refused(5, "read(), the text ends too early", BAD_TEXT, x -> x.read());
        refused(9, "deal(3), sealed and not certified", NOT_POSSIBLE, x -> x.deal(3));
        refused(10, "seal(3), it is sealed", NOT_POSSIBLE, x -> x.seal(3));
        refused(22, "put of one more", TOO_MANY, x -> x.put('c'));
        refused(22, "put of eight more", TOO_MANY, x -> x.put(Given.packed("c2,d3,h4")));
        RefusedCallsTest almost = new RefusedCallsTest("with place for one in the pad", () -> {
            SealedDeals x = Scenes.busy();
            x.wipe();
            Given.write(x, Given.cards(20));
            return x;
        });
        almost.refused(22, "put of two", TOO_MANY, x -> x.put(Given.packed(",c")));
    }

    private void questions() {
        changesNothing(12, "card(51)", x -> x.card(51));
        changesNothing(13, "placeOf(51)", x -> x.placeOf(51));
        for (int board = 0; board < 4; board++) {
            int asked = board;
            changesNothing(14, "holder(" + asked + ", 51)", x -> x.holder(asked, 51));
            for (int what = 0; what < 7; what++) {
                int aspect = what;
                changesNothing(15, "hand(" + asked + ", 3, " + aspect + ")", x -> x.hand(asked, 3, aspect));
            }
            for (int what = 0; what < 5; what++) {
                int aspect = what;
                changesNothing(16, "board(" + asked + ", " + aspect + ")", x -> x.board(asked, aspect));
            }
            changesNothing(18, "alike(" + asked + ", 0)", x -> x.alike(asked, 0));
        }
        for (int what = 0; what < 14; what++) {
            int aspect = what;
            changesNothing(17, "count(" + aspect + ")", x -> x.count(aspect));
        }
        changesNothing(24, "fault()", x -> x.fault());
    }

    private void whatIfs() {
        changesNothing(19, "ifRiffled(1, 0)", x -> x.ifRiffled(1, 0));
        changesNothing(19, "ifRiffled(20, 0)", x -> x.ifRiffled(20, 0));
        changesNothing(19, "ifRiffled(1, 1)", x -> x.ifRiffled(1, 1));
        changesNothing(19, "ifRiffled(20, 1)", x -> x.ifRiffled(20, 1));
        changesNothing(20, "needed()", x -> x.needed());
        changesNothing(21, "worstBend()", x -> x.worstBend());
    }

    private void padAlone() {
        String p = ", the pad alone changes, and nothing is recorded, " + name;
        Due.sentence("Promise 22" + p, fresh -> leaves("put", x -> x.put('c'), Looks.PAD));
        Due.sentence("Promise 23" + p, fresh -> leaves("wipe()", x -> x.wipe(), Looks.PAD));
    }

    private void slotAlone() {
        String p = "Promise 26, a slot alone changes, and nothing is recorded, " + name;
        Due.sentence(p, fresh -> leaves("save(0)", x -> x.save(0), Looks.SLOT_0));
        Due.sentence(p, fresh -> leaves("save(1)", x -> x.save(1), Looks.SLOT_1));
    }
}
