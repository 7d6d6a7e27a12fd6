import java.util.Map;
import java.util.function.Supplier;
import java.util.function.ToIntFunction;

/** The boundary cases of promises 25 to 27, a test for each sentence. */
public final class EdgesOfHistoryTest {
    private static final int BAD_VALUE = -2, NOT_POSSIBLE = -5;
    private static final int LEAST = Integer.MIN_VALUE, GREATEST = Integer.MAX_VALUE;

    public static void main(String[] args) {
        undo();
        historyOfFour();
        changesOfANewObject();
        changesInTheMidst();
        changesWhenFull();
        undoLeaves();
        save();
        saveErrors();
        saveKeepsItsOwn();
        restore();
        restoreErrors();
        restoreLeaves();
        Due.finish();
    }

    private static void undo() {
        String p = "Promise 25, undo: ";
        Due.sentence(p + "not possible, if there is no change", x -> Due.is("undo()", NOT_POSSIBLE, x.undo()));
        Due.sentence(p + "one change", x -> {
            x.seed(5);
            Due.is("count(13)", 1, x.count(13));
            Due.is("undo()", 0, x.undo());
            Due.is("count(2)", 1, x.count(2));
            Due.is("undo()", NOT_POSSIBLE, x.undo());
        });
        Due.sentence(p + "a refused one changes nothing", x -> {
            x.seed(5);
            x.undo();
            x.undo();
            Due.is("count(2)", 1, x.count(2));
            Due.is("count(13)", 0, x.count(13));
        });
        Due.sentence(p + "it is not recorded: the state ahead of it does not come back", x -> {
            x.seed(5);
            x.seed(6);
            x.undo();
            x.undo();
            Due.is("count(2)", 1, x.count(2));
        });
        Due.sentence(p + "a change behind an undo is recorded in its place", x -> {
            x.seed(5);
            x.seed(6);
            x.undo();
            x.seed(7);
            Due.is("count(13)", 2, x.count(13));
            Due.is("undo()", 1, x.undo());
            Due.is("count(2)", 5, x.count(2));
        });
        Due.sentence(p + "the latest change, of each board alone", fresh -> {
            SealedDeals x = Scenes.full();
            Due.is("open(3)", 1, x.open(3));
            Due.is("open(0)", 1, x.open(0));
            x.undo();
            Due.is("board(0, 1)", 1, x.board(0, 1));
            Due.is("board(0, 2)", 0, x.board(0, 2));
            Due.is("board(3, 1)", 0, x.board(3, 1));
            Due.is("count(9)", 1, x.count(9));
        });
    }

    private static void historyOfFour() {
        String p = "Promise 25, a history of at most 4 states: ";
        Due.sentence(p + "3 changes, 3 can be undone", x -> seedsAndUndos(x, 3, 3));
        Due.sentence(p + "4 changes, 4 can be undone", x -> seedsAndUndos(x, 4, 4));
        Due.sentence(p + "5 changes, the oldest state is dropped", x -> seedsAndUndos(x, 5, 4));
        Due.sentence(p + "9 changes, all the oldest states are dropped", x -> seedsAndUndos(x, 9, 4));
        Due.sentence(p + "all taken back, 4 more can be recorded", x -> {
            seedsAndUndos(x, 6, 4);
            int left = x.count(2);
            for (int change = 0; change < 4; change++) {
                x.seed(100 + change);
            }
            for (int undo = 3; undo >= 0; undo--) {
                Due.is("undo()", undo, x.undo());
            }
            Due.is("count(2)", left, x.count(2));
        });
        Due.sentence(p + "full, one taken back: the next one drops none", x -> {
            for (int change = 1; change <= 4; change++) {
                x.seed(10 * change);
            }
            x.undo();
            x.seed(99);
            Due.is("count(13)", 4, x.count(13));
            for (int undo = 3; undo >= 0; undo--) {
                Due.is("undo()", undo, x.undo());
            }
            Due.is("the first state is there yet: count(2)", 1, x.count(2));
        });
    }

    /** The seeds are 10, 20 and so on; 1 is the x of a new object. */
    private static void seedsAndUndos(SealedDeals x, int changes, int undoable) {
        for (int change = 1; change <= changes; change++) {
            x.seed(10 * change);
            Due.is("count(13)", Math.min(change, 4), x.count(13));
        }
        for (int undo = 1; undo <= undoable; undo++) {
            Due.is("undo()", undoable - undo, x.undo());
            int seeds = changes - undo;
            Due.is("count(2)", seeds == 0 ? 1 : 10 * seeds, x.count(2));
            Due.is("count(13)", undoable - undo, x.count(13));
        }
        Due.is("undo() of nothing", NOT_POSSIBLE, x.undo());
    }

    /** The change returns no error, records the state before it, and undo brings all of that back. */
    private static void recorded(int promise, String call, Supplier<SealedDeals> scene, ToIntFunction<SealedDeals> change) {
        Due.sentence("Promise " + promise + ", " + call + " is a change, recorded by promise 25", fresh -> {
            Due.holds(call + " returns no error", change.applyAsInt(scene.get()) >= 0);
            Supplier<SealedDeals> changed = () -> {
                SealedDeals x = scene.get();
                change.applyAsInt(x);
                return x;
            };
            int before = scene.get().count(13);
            int behind = Math.min(before + 1, 4);
            Due.is("count(13)", behind, changed.get().count(13));
            for (int undos = 1; undos <= behind; undos++) {
                int further = undos - 1;
                String due = Looks.table(() -> Looks.undone(scene, further));
                int taken = undos;
                Due.holds(call + " and " + undos + " undos: all is as it was",
                    due.equals(Looks.table(() -> Looks.undone(changed, taken))));
            }
            Due.is("undo() of no more", NOT_POSSIBLE, Looks.undone(changed, behind).undo());
            Map<String, String> all = Looks.all(changed);
            Map<String, String> undone = Looks.all(() -> Looks.undone(changed, 1));
            for (String part : new String[] {Looks.PAD, Looks.SLOT_0, Looks.SLOT_1}) {
                Due.holds("undo leaves " + part, withoutBent(all.get(part)).equals(withoutBent(undone.get(part))));
            }
        });
    }

    /** Which cards of the pad are bent by a read depends on what undo took back; the pad's own answers do not. */
    private static String withoutBent(String look) {
        int end = look.indexOf(" read ");
        return end < 0 ? look : look.substring(0, end);
    }

    private static void changesOfANewObject() {
        Supplier<SealedDeals> scene = Scenes::fresh;
        recorded(2, "set of the value that it has", scene, x -> x.set(0, 8));
        recorded(2, "set(1, 9)", scene, x -> x.set(1, 9));
        recorded(3, "seed of the x that it is", scene, x -> x.seed(1));
        recorded(4, "bend(51)", scene, x -> x.bend(51));
        recorded(6, "shuffle()", scene, x -> x.shuffle());
        recorded(7, "cut(1)", scene, x -> x.cut(1));
        recorded(7, "cut(51)", scene, x -> x.cut(51));
        recorded(8, "sort() of a pack in order", scene, x -> x.sort());
        Supplier<SealedDeals> saved = () -> {
            SealedDeals x = new SealedDeals();
            x.save(1);
            return x;
        };
        recorded(27, "restore of what it is", saved, x -> x.restore(1));
        Supplier<SealedDeals> written = () -> {
            SealedDeals x = new SealedDeals();
            Given.write(x, "c2,c2");
            return x;
        };
        recorded(5, "read() that leaves all cards as they were", written, x -> x.read());
    }

    private static void changesInTheMidst() {
        Supplier<SealedDeals> scene = Scenes::busy;
        recorded(2, "set of the value that it has, history full", scene, x -> x.set(1, 5));
        recorded(2, "set(0, 0), history full", scene, x -> x.set(0, 0));
        recorded(3, "seed of the x that it is, history full", scene, x -> x.seed(x.count(2)));
        recorded(3, "seed(MAX), history full", scene, x -> x.seed(GREATEST));
        recorded(4, "bend(1), history full", scene, x -> x.bend(1));
        recorded(4, "bend(51) that flattens, history full", scene, x -> x.bend(51));
        recorded(5, "read(), history full", scene, x -> x.read());
        recorded(6, "shuffle(), history full", scene, x -> x.shuffle());
        recorded(7, "cut(26), history full", scene, x -> x.cut(26));
        recorded(8, "sort(), history full", scene, x -> x.sort());
        recorded(9, "deal(1) that was opened, history full", scene, x -> x.deal(1));
        recorded(9, "deal(2) that has cards, history full", scene, x -> x.deal(2));
        recorded(9, "deal(3), history full", scene, x -> x.deal(3));
        recorded(10, "seal(1), history full", scene, x -> x.seal(1));
        recorded(11, "open(0), history full", scene, x -> x.open(0));
        recorded(27, "restore(0), history full", scene, x -> x.restore(0));
    }

    private static void changesWhenFull() {
        Supplier<SealedDeals> scene = Scenes::full;
        recorded(8, "sort(), two can be undone", scene, x -> x.sort());
        recorded(11, "open(3), two can be undone", scene, x -> x.open(3));
        recorded(27, "restore(1), two can be undone", scene, x -> x.restore(1));
        recorded(6, "shuffle() that takes no certificate, two can be undone", scene, x -> x.shuffle());
    }

    private static void undoLeaves() {
        String p = "Promise 25, everything except the pad, the slots and the history: ";
        Due.sentence(p + "a pad that was read stays empty", x -> {
            Given.write(x, Given.cards(20));
            x.read();
            x.undo();
            Due.is("count(12)", 0, x.count(12));
            Due.is("count(3)", 0, x.count(3));
        });
        Due.sentence(p + "a pad that was written behind the change stays", x -> {
            x.seed(5);
            Given.write(x, Given.cards(20) + ",");
            x.undo();
            Due.is("count(12)", 60, x.count(12));
        });
        Due.sentence(p + "a pad that was wiped behind the change stays empty", x -> {
            Given.write(x, "c2");
            x.seed(5);
            x.wipe();
            x.undo();
            Due.is("count(12)", 0, x.count(12));
        });
        Due.sentence(p + "a slot that was filled behind the change stays filled", x -> {
            x.seed(5);
            x.save(1);
            x.undo();
            Due.is("restore(1)", 0, x.restore(1));
            Due.is("count(2)", 5, x.count(2));
        });
        Due.sentence(p + "a slot that was restored stays as it was saved", x -> {
            x.save(0);
            x.seed(5);
            x.restore(0);
            x.undo();
            Due.is("count(2)", 5, x.count(2));
            x.restore(0);
            Due.is("count(2)", 1, x.count(2));
        });
        Due.sentence(p + "the certificate comes back, and is used up again", fresh -> {
            SealedDeals x = Given.inOrderAndCertified();
            x.deal(0);
            x.undo();
            Due.is("count(4)", 1, x.count(4));
            Due.is("deal(3)", 10, x.deal(3));
            Due.is("deal(0)", NOT_POSSIBLE, x.deal(0));
        });
    }

    private static void save() {
        String p = "Promise 26, save: ";
        Due.sentence(p + "the first slot", x -> {
            Due.is("save(0)", 0, x.save(0));
            Due.is("restore(0)", 0, x.restore(0));
            Due.is("the other one is empty: restore(1)", NOT_POSSIBLE, x.restore(1));
        });
        Due.sentence(p + "the last slot", x -> {
            Due.is("save(1)", 0, x.save(1));
            Due.is("restore(1)", 0, x.restore(1));
            Due.is("the other one is empty: restore(0)", NOT_POSSIBLE, x.restore(0));
        });
        Due.sentence(p + "how many boards have cards, none up to all", fresh -> {
            SealedDeals x = Given.withAllCertified(1);
            for (int board = 3; board >= 0; board--) {
                Due.is("save(0)", 3 - board, x.save(0));
                Given.dealNext(x, board);
                x.seal(board);
                Due.is("save(1)", 4 - board, x.save(1));
            }
        });
        Due.sentence(p + "a board that is dealt twice is one", fresh -> {
            SealedDeals x = Given.dealtFrom(1);
            Given.dealNext(x, 0);
            Due.is("save(0)", 1, x.save(0));
        });
        Due.sentence(p + "it is no change", x -> {
            x.seed(5);
            x.save(0);
            Due.is("count(13)", 1, x.count(13));
            Due.is("undo()", 0, x.undo());
            Due.is("count(2)", 1, x.count(2));
        });
        Due.sentence(p + "it overwrites what was saved there", x -> {
            x.seed(5);
            x.save(0);
            x.seed(6);
            x.save(0);
            x.seed(7);
            x.restore(0);
            Due.is("count(2)", 6, x.count(2));
        });
    }

    private static void saveErrors() {
        String p = "Promise 26, save: ";
        Due.sentence(p + "no slot just below", x -> Due.is("save(-1)", BAD_VALUE, x.save(-1)));
        Due.sentence(p + "no slot just above", x -> Due.is("save(2)", BAD_VALUE, x.save(2)));
        Due.sentence(p + "no slot far off", x -> {
            Due.is("save(MIN)", BAD_VALUE, x.save(LEAST));
            Due.is("save(MAX)", BAD_VALUE, x.save(GREATEST));
        });
    }

    private static void saveKeepsItsOwn() {
        String p = "Promise 26, save: ";
        Due.sentence(p + "what happens behind it does not touch the slot", fresh -> {
            String due = Looks.table(Scenes::full);
            Due.holds("restored as it was", due.equals(Looks.table(() -> {
                SealedDeals x = Scenes.full();
                x.save(0);
                changeAll(x);
                x.restore(0);
                return x;
            })));
        });
        Due.sentence(p + "each slot has its own", x -> {
            x.seed(5);
            x.save(0);
            x.seed(6);
            x.save(1);
            x.restore(0);
            Due.is("count(2)", 5, x.count(2));
            x.restore(1);
            Due.is("count(2)", 6, x.count(2));
        });
        Due.sentence(p + "not the pad, not the history, not the other slot", x -> {
            Given.write(x, "c2");
            x.seed(5);
            x.save(1);
            x.save(0);
            Given.write(x, ",");
            x.seed(6);
            x.save(1);
            x.restore(0);
            Due.is("the pad stays: count(12)", 3, x.count(12));
            Due.is("the history goes on: count(13)", 3, x.count(13));
            x.restore(1);
            Due.is("the other slot stays: count(2)", 6, x.count(2));
        });
    }

    /** Something of all that a state tells of. */
    private static void changeAll(SealedDeals x) {
        x.set(0, 51);
        x.set(1, 9);
        x.bend(0);
        x.bend(20);
        x.bend(51);
        x.open(0);
        x.open(3);
        Given.dealNext(x, 0);
        Given.dealNext(x, 3);
        x.seal(0);
        x.shuffle();
        x.cut(13);
        x.seed(0);
    }

    private static void restore() {
        String p = "Promise 27, restore: ";
        Due.sentence(p + "how many boards have cards then, none", fresh -> {
            SealedDeals x = Scenes.full();
            Due.is("all have: save(0)", 4, x.save(0));
            Due.is("restore(1)", 0, x.restore(1));
            Due.is("board(0, 0)", 0, x.board(0, 0));
        });
        Due.sentence(p + "how many boards have cards then, all", fresh -> {
            SealedDeals x = Scenes.full();
            x.restore(1);
            Due.is("restore(0)", 4, x.restore(0));
            Due.is("board(3, 1)", 1, x.board(3, 1));
            Due.is("count(10)", 4, x.count(10));
        });
        Due.sentence(p + "it is a change", x -> {
            x.save(0);
            x.seed(5);
            x.restore(0);
            Due.is("count(13)", 2, x.count(13));
            Due.is("undo()", 1, x.undo());
            Due.is("count(2)", 5, x.count(2));
        });
        Due.sentence(p + "as the fifth change it drops the oldest state", x -> {
            x.save(0);
            for (int change = 1; change <= 4; change++) {
                x.seed(10 * change);
            }
            x.restore(0);
            Due.is("count(13)", 4, x.count(13));
            for (int undo = 3; undo >= 0; undo--) {
                Due.is("undo()", undo, x.undo());
            }
            Due.is("count(2)", 10, x.count(2));
        });
        Due.sentence(p + "the slot keeps it, whatever happens behind", fresh -> {
            String due = Looks.table(Scenes::full);
            Due.holds("restored twice, as it was", due.equals(Looks.table(() -> {
                SealedDeals x = Scenes.full();
                x.save(1);
                changeAll(x);
                x.restore(1);
                x.set(0, 51);
                changeAll(x);
                x.restore(1);
                return x;
            })));
        });
        Due.sentence(p + "what was saved last", x -> {
            x.seed(5);
            x.save(0);
            x.seed(6);
            x.save(0);
            x.undo();
            x.undo();
            x.restore(0);
            Due.is("count(2)", 6, x.count(2));
        });
    }

    private static void restoreErrors() {
        String p = "Promise 27, restore: ";
        Due.sentence(p + "no slot just below", x -> Due.is("restore(-1)", BAD_VALUE, x.restore(-1)));
        Due.sentence(p + "no slot just above", x -> Due.is("restore(2)", BAD_VALUE, x.restore(2)));
        Due.sentence(p + "no slot far off", x -> {
            Due.is("restore(MIN)", BAD_VALUE, x.restore(LEAST));
            Due.is("restore(MAX)", BAD_VALUE, x.restore(GREATEST));
        });
        Due.sentence(p + "not possible if nothing was saved in it", x -> {
            Due.is("restore(0)", NOT_POSSIBLE, x.restore(0));
            Due.is("restore(1)", NOT_POSSIBLE, x.restore(1));
        });
        Due.sentence(p + "nothing was saved in it, only in the other one", x -> {
            x.save(1);
            Due.is("restore(0)", NOT_POSSIBLE, x.restore(0));
            Due.is("restore(1)", 0, x.restore(1));
        });
        Due.sentence(p + "BAD_VALUE comes ahead of NOT_POSSIBLE", x -> {
            Due.is("nothing is saved: restore(-1)", BAD_VALUE, x.restore(-1));
            Due.is("nothing is saved: restore(2)", BAD_VALUE, x.restore(2));
        });
        Due.sentence(p + "a save that was refused saved nothing", x -> {
            x.save(2);
            x.save(-1);
            Due.is("restore(0)", NOT_POSSIBLE, x.restore(0));
            Due.is("restore(1)", NOT_POSSIBLE, x.restore(1));
        });
    }

    private static void restoreLeaves() {
        String p = "Promise 27, restore, not the pad, the history and the slots: ";
        Due.sentence(p + "the pad stays", x -> {
            x.save(0);
            Given.write(x, Given.cards(20) + ",");
            x.restore(0);
            Due.is("count(12)", 60, x.count(12));
        });
        Due.sentence(p + "the history goes on, it is not the one at the save", x -> {
            x.save(0);
            x.seed(5);
            x.seed(6);
            x.restore(0);
            Due.is("count(13)", 3, x.count(13));
            x.undo();
            x.undo();
            Due.is("count(2)", 5, x.count(2));
        });
        Due.sentence(p + "the slots stay", x -> {
            x.save(0);
            x.seed(5);
            x.save(1);
            x.restore(0);
            Due.is("restore(1)", 0, x.restore(1));
            Due.is("count(2)", 5, x.count(2));
        });
    }
}
