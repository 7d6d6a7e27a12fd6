/** The boundary cases of promises 2 to 11, a test for each sentence. What a refused call leaves: RefusedCallsTest. */
public final class EdgesOfChangesTest {
    private static final int NO_SUCH = -1, BAD_VALUE = -2, BAD_TEXT = -3, NOT_POSSIBLE = -5, NONE = -6;
    private static final int LEAST = Integer.MIN_VALUE, GREATEST = Integer.MAX_VALUE;

    public static void main(String[] args) {
        set();
        seed();
        bend();
        read();
        shuffle();
        cut();
        sort();
        deal();
        dealErrors();
        seal();
        open();
        Due.finish();
    }

    private static void set() {
        String p = "Promise 2, set: ";
        Due.sentence(p + "KEEPS at its least", x -> {
            Due.is("set(0, 0)", 8, x.set(0, 0));
            Due.is("count(0)", 0, x.count(0));
        });
        Due.sentence(p + "KEEPS at its greatest", x -> {
            Due.is("set(0, 51)", 8, x.set(0, 51));
            Due.is("count(0)", 51, x.count(0));
        });
        Due.sentence(p + "KEEPS just below its range", x -> Due.is("set(0, -1)", BAD_VALUE, x.set(0, -1)));
        Due.sentence(p + "KEEPS just above its range", x -> Due.is("set(0, 52)", BAD_VALUE, x.set(0, 52)));
        Due.sentence(p + "RIFFLES at its least", x -> {
            Due.is("set(1, 1)", 3, x.set(1, 1));
            Due.is("count(1)", 1, x.count(1));
        });
        Due.sentence(p + "RIFFLES at its greatest", x -> {
            Due.is("set(1, 9)", 3, x.set(1, 9));
            Due.is("count(1)", 9, x.count(1));
        });
        Due.sentence(p + "RIFFLES just below its range", x -> Due.is("set(1, 0)", BAD_VALUE, x.set(1, 0)));
        Due.sentence(p + "RIFFLES just above its range", x -> Due.is("set(1, 10)", BAD_VALUE, x.set(1, 10)));
        Due.sentence(p + "values far out of range", x -> {
            Due.is("set(0, MIN)", BAD_VALUE, x.set(0, LEAST));
            Due.is("set(0, MAX)", BAD_VALUE, x.set(0, GREATEST));
            Due.is("set(1, MIN)", BAD_VALUE, x.set(1, LEAST));
            Due.is("set(1, MAX)", BAD_VALUE, x.set(1, GREATEST));
        });
        Due.sentence(p + "no setting just below them", x -> Due.is("set(-1, 3)", BAD_VALUE, x.set(-1, 3)));
        Due.sentence(p + "no setting just above them", x -> Due.is("set(2, 3)", BAD_VALUE, x.set(2, 3)));
        Due.sentence(p + "no setting far from them", x -> {
            Due.is("set(MIN, 3)", BAD_VALUE, x.set(LEAST, 3));
            Due.is("set(MAX, 3)", BAD_VALUE, x.set(GREATEST, 3));
        });
        Due.sentence(p + "neither such a setting nor such a value", x -> {
            Due.is("set(-1, -1)", BAD_VALUE, x.set(-1, -1));
            Due.is("set(2, 52)", BAD_VALUE, x.set(2, 52));
        });
        Due.sentence(p + "the previous value, also if it is the same", x -> {
            Due.is("set(0, 8)", 8, x.set(0, 8));
            Due.is("set(0, 0)", 8, x.set(0, 0));
            Due.is("set(0, 51)", 0, x.set(0, 51));
            Due.is("set(1, 9)", 3, x.set(1, 9));
            Due.is("set(0, 8)", 51, x.set(0, 8));
        });
    }

    private static void seed() {
        String p = "Promise 3, seed: ";
        Due.sentence(p + "0", x -> {
            Due.is("seed(0)", 1, x.seed(0));
            Due.is("count(2)", 0, x.count(2));
        });
        Due.sentence(p + "just below 0", x -> Due.is("seed(-1)", BAD_VALUE, x.seed(-1)));
        Due.sentence(p + "far below 0", x -> Due.is("seed(MIN)", BAD_VALUE, x.seed(LEAST)));
        Due.sentence(p + "the greatest number", x -> {
            Due.is("seed(MAX)", 1, x.seed(GREATEST));
            Due.is("count(2)", GREATEST, x.count(2));
        });
        Due.sentence(p + "the previous x, at its least and at its greatest", x -> {
            x.seed(0);
            Due.is("seed(MAX)", 0, x.seed(GREATEST));
            Due.is("seed(1)", GREATEST, x.seed(1));
        });
        Due.sentence(p + "the previous x, as drawn by a shuffle", x -> {
            x.shuffle();
            Due.is("seed(0)", 1589704933, x.seed(0));
        });
    }

    private static void bend() {
        String p = "Promise 4, bend: ";
        Due.sentence(p + "the first card", x -> {
            Due.is("bend(0)", 1, x.bend(0));
            Due.is("worstBend()", 0, x.worstBend());
        });
        Due.sentence(p + "the last card", x -> {
            Due.is("bend(51)", 1, x.bend(51));
            Due.is("worstBend()", 51, x.worstBend());
        });
        Due.sentence(p + "no card just below", x -> Due.is("bend(-1)", NO_SUCH, x.bend(-1)));
        Due.sentence(p + "no card just above", x -> Due.is("bend(52)", NO_SUCH, x.bend(52)));
        Due.sentence(p + "no card far off", x -> {
            Due.is("bend(MIN)", NO_SUCH, x.bend(LEAST));
            Due.is("bend(MAX)", NO_SUCH, x.bend(GREATEST));
        });
        Due.sentence(p + "flattens it, if it is bent", x -> {
            x.bend(51);
            Due.is("bend(51)", 0, x.bend(51));
            Due.is("worstBend()", NONE, x.worstBend());
            Due.is("bend(51)", 1, x.bend(51));
        });
        Due.sentence(p + "how many are bent, up to all and back to none", x -> {
            for (int card = 0; card < 52; card++) {
                Due.is("bend(" + card + ")", card + 1, x.bend(card));
            }
            Due.is("count(3)", 52, x.count(3));
            for (int card = 51; card >= 0; card--) {
                Due.is("bend(" + card + ")", card, x.bend(card));
            }
        });
        Due.sentence(p + "a certificate stays, when a card is bent and when it is flattened", x -> {
            x.shuffle();
            x.bend(0);
            Due.is("count(4)", 1, x.count(4));
            x.bend(0);
            Due.is("count(4)", 1, x.count(4));
            Due.holds("deal(0)", x.deal(0) >= 0);
        });
        Due.sentence(p + "a pack that is not certified does not become so", x -> {
            x.bend(0);
            Due.is("count(4)", 0, x.count(4));
        });
    }

    private static void read() {
        String p = "Promise 5, read: ";
        Due.sentence(p + "an empty pad has a fault", x -> Due.is("read()", BAD_TEXT, x.read()));
        Due.sentence(p + "a text that ends too early, behind a suit", x -> refusedRead(x, "c2,d"));
        Due.sentence(p + "a text that ends too early, behind a comma", x -> refusedRead(x, "c2,"));
        Due.sentence(p + "a fault at the first character", x -> refusedRead(x, "2c"));
        Due.sentence(p + "a fault at the last character", x -> refusedRead(x, "c2,d3,h4,s1"));
        Due.sentence(p + "a full pad that ends too early", x -> refusedRead(x, Given.cards(20) + ","));
        Due.sentence(p + "one card", x -> {
            Given.write(x, "sa");
            Due.is("read()", 1, x.read());
            Due.is("worstBend()", 51, x.worstBend());
        });
        Due.sentence(p + "the longest text, 20 cards", x -> {
            Given.write(x, Given.cards(20));
            Due.is("count(12)", 59, x.count(12));
            Due.is("read()", 20, x.read());
            for (int card = 0; card < 20; card++) {
                Due.is("bend(" + card + ")", 19 - card, x.bend(card));
            }
        });
        Due.sentence(p + "one after the other: a card that stands there twice is flat again", x -> {
            Given.write(x, "c2,c2");
            Due.is("read()", 0, x.read());
            Given.write(x, "c2,ca,c2,c2");
            Due.is("read()", 2, x.read());
        });
        Due.sentence(p + "flattens all that are bent", x -> {
            x.bend(0);
            x.bend(51);
            Given.write(x, "sa,c2");
            Due.is("read()", 0, x.read());
        });
        Due.sentence(p + "empties the pad", x -> {
            Given.write(x, Given.cards(20));
            x.read();
            Due.is("count(12)", 0, x.count(12));
            Due.is("fault()", 0, x.fault());
            Due.is("wipe()", 0, x.wipe());
            Due.is("read() again", BAD_TEXT, x.read());
        });
    }

    private static void refusedRead(SealedDeals x, String text) {
        Given.write(x, text);
        Due.is("read()", BAD_TEXT, x.read());
        Due.is("the pad stays: count(12)", text.length(), x.count(12));
        Due.is("nothing is bent: count(3)", 0, x.count(3));
        Due.is("nothing is recorded: count(13)", 0, x.count(13));
    }

    private static void shuffle() {
        String p = "Promise 6, shuffle: ";
        Due.sentence(p + "none is kept", x -> {
            x.set(1, 9);
            Due.is("shuffle()", 0, x.shuffle());
            Due.is("count(5)", 0, x.count(5));
        });
        Due.sentence(p + "all are kept", fresh -> Due.is("count(5)", 51, Given.inOrderAndCertified().count(5)));
        Due.sentence(p + "it is one with a latest, whatever was ahead", x -> {
            Due.is("count(5)", NONE, x.count(5));
            Due.is("shuffle()", 4, x.shuffle());
            Due.is("count(5)", 4, x.count(5));
            Due.is("count(6)", 1, x.count(6));
        });
        Due.sentence(p + "a board that is sealed keeps its cards", fresh -> {
            SealedDeals x = Given.inOrderAndCertified();
            x.deal(0);
            x.seal(0);
            x.seed(1);
            x.shuffle();
            Due.is("holder(0, 51)", 3, x.holder(0, 51));
            Due.is("board(0, 1)", 1, x.board(0, 1));
        });
    }

    private static void cut() {
        String p = "Promise 7, cut: ";
        Due.sentence(p + "1 card", x -> {
            Due.is("cut(1)", 1, x.cut(1));
            Given.packIs("cut(1)", Given.inOrder(1), x);
        });
        Due.sentence(p + "51 cards", x -> {
            Due.is("cut(51)", 51, x.cut(51));
            Given.packIs("cut(51)", Given.inOrder(51), x);
        });
        Due.sentence(p + "just below its range", x -> Due.is("cut(0)", BAD_VALUE, x.cut(0)));
        Due.sentence(p + "just above its range", x -> Due.is("cut(52)", BAD_VALUE, x.cut(52)));
        Due.sentence(p + "far out of range", x -> {
            Due.is("cut(-1)", BAD_VALUE, x.cut(-1));
            Due.is("cut(53)", BAD_VALUE, x.cut(53));
            Due.is("cut(MIN)", BAD_VALUE, x.cut(LEAST));
            Due.is("cut(MAX)", BAD_VALUE, x.cut(GREATEST));
        });
        Due.sentence(p + "two cuts of 52 cards together leave the pack", x -> {
            x.shuffle();
            int top = x.card(0);
            int last = x.card(51);
            x.cut(51);
            Due.is("the last card is on top", last, x.card(0));
            Due.is("the top card lies beneath it", top, x.card(1));
            Due.is("cut(1)", top, x.cut(1));
            Due.is("the last card is the last", last, x.card(51));
        });
        Due.sentence(p + "a certificate stays", x -> {
            x.shuffle();
            x.cut(1);
            Due.is("count(4)", 1, x.count(4));
            x.cut(51);
            Due.is("count(4)", 1, x.count(4));
            Due.holds("deal(0)", x.deal(0) >= 0);
        });
        Due.sentence(p + "a pack that is not certified does not become so", x -> {
            x.cut(26);
            Due.is("count(4)", 0, x.count(4));
        });
    }

    private static void sort() {
        String p = "Promise 8, sort: ";
        Due.sentence(p + "no card lay at another place", x -> Due.is("sort()", 0, x.sort()));
        Due.sentence(p + "each card lay at another place", x -> {
            x.cut(1);
            Due.is("sort()", 52, x.sort());
            Given.packIs("sort", Given.inOrder(0), x);
        });
        Due.sentence(p + "the last card alone lay at its place", x -> {
            x.set(1, 1);
            x.shuffle();
            Due.is("card(51)", 51, x.card(51));
            Due.is("sort()", 51, x.sort());
        });
        Due.sentence(p + "the two first cards, or the two last ones, alone lay at another place", fresh -> {
            Due.is("sort()", 2, Given.withTwoExchanged(0).sort());
            Due.is("sort()", 2, Given.withTwoExchanged(50).sort());
        });
        Due.sentence(p + "not certified then, also if no card moves", fresh -> {
            SealedDeals x = Given.inOrderAndCertified();
            Due.is("count(4)", 1, x.count(4));
            Due.is("sort()", 0, x.sort());
            Due.is("count(4)", 0, x.count(4));
            Due.is("deal(0)", NOT_POSSIBLE, x.deal(0));
        });
        Due.sentence(p + "the pack alone: bent cards, boards and x stay", fresh -> {
            SealedDeals x = Given.dealtFrom(551);
            x.bend(51);
            int drawn = x.count(2);
            x.sort();
            Due.is("count(2)", drawn, x.count(2));
            Due.is("count(3)", 1, x.count(3));
            Due.is("board(0, 0)", 1, x.board(0, 0));
            Due.is("hand(0, 3, 4)", 15, x.hand(0, 3, 4));
        });
    }

    private static void deal() {
        String p = "Promise 9, deal: ";
        Due.sentence(p + "the first board", x -> {
            x.shuffle();
            Due.is("deal(0)", 9, x.deal(0));
            Due.is("board(0, 0)", 1, x.board(0, 0));
            Due.is("board(1, 0)", 0, x.board(1, 0));
        });
        Due.sentence(p + "the last board", x -> {
            x.shuffle();
            Due.is("deal(3)", 9, x.deal(3));
            Due.is("board(3, 0)", 1, x.board(3, 0));
            Due.is("board(2, 0)", 0, x.board(2, 0));
        });
        Due.sentence(p + "the points of the hand 0, none", fresh -> {
            SealedDeals x = Given.withAllCertified(155);
            x.shuffle();
            Due.is("deal(0)", 0, x.deal(0));
        });
        Due.sentence(p + "in place of the cards that it had", fresh -> {
            SealedDeals x = Given.dealtFrom(551);
            Given.dealNext(x, 0);
            for (int place = 0; place < 52; place++) {
                Due.is("holder of the card at " + place, place % 4, x.holder(0, x.card(place)));
            }
            Due.is("save(0), one board has cards", 1, x.save(0));
        });
        Due.sentence(p + "its replays are 0 then, those of another board and those so far stay", fresh -> {
            SealedDeals x = Given.dealtFrom(0);
            Given.dealNext(x, 1);
            for (int board = 0; board < 2; board++) {
                x.seal(board);
                x.open(board);
            }
            Given.dealNext(x, 0);
            Due.is("board(0, 2)", 0, x.board(0, 2));
            Due.is("board(1, 2)", 1, x.board(1, 2));
            Due.is("count(9)", 2, x.count(9));
        });
    }

    private static void dealErrors() {
        String p = "Promise 9, deal: ";
        Due.sentence(p + "no board just below", x -> {
            x.shuffle();
            Due.is("deal(-1)", NO_SUCH, x.deal(-1));
        });
        Due.sentence(p + "no board just above", x -> {
            x.shuffle();
            Due.is("deal(4)", NO_SUCH, x.deal(4));
        });
        Due.sentence(p + "no board far off", x -> {
            x.shuffle();
            Due.is("deal(MIN)", NO_SUCH, x.deal(LEAST));
            Due.is("deal(MAX)", NO_SUCH, x.deal(GREATEST));
        });
        Due.sentence(p + "NO_SUCH comes ahead of NOT_POSSIBLE", x -> {
            Due.is("not certified", 0, x.count(4));
            Due.is("deal(-1)", NO_SUCH, x.deal(-1));
            Due.is("deal(4)", NO_SUCH, x.deal(4));
        });
        Due.sentence(p + "not possible without a certificate", x -> Due.is("deal(0)", NOT_POSSIBLE, x.deal(0)));
        Due.sentence(p + "not possible if it is sealed, also with a certificate", fresh -> {
            SealedDeals x = Given.dealtFrom(0);
            x.seal(0);
            x.shuffle();
            Due.is("count(4)", 1, x.count(4));
            Due.is("deal(0)", NOT_POSSIBLE, x.deal(0));
            Due.is("the certificate is not used up: count(4)", 1, x.count(4));
            Due.holds("another board", x.deal(1) >= 0);
        });
        Due.sentence(p + "not possible if it is sealed and the pack not certified", fresh -> {
            SealedDeals x = Given.dealtFrom(0);
            x.seal(0);
            Due.is("deal(0)", NOT_POSSIBLE, x.deal(0));
        });
        Due.sentence(p + "possible again when it is opened", fresh -> {
            SealedDeals x = Given.dealtFrom(0);
            x.seal(0);
            x.shuffle();
            x.open(0);
            Due.holds("deal(0)", x.deal(0) >= 0);
            Due.is("board(0, 1)", 0, x.board(0, 1));
        });
    }

    private static void seal() {
        String p = "Promise 10, seal: ";
        Due.sentence(p + "the first board up to the last", fresh -> {
            SealedDeals x = Given.withAllCertified(1);
            for (int board = 0; board < 4; board++) {
                Given.dealNext(x, board);
                Due.is("seal(" + board + ")", board + 1, x.seal(board));
                Due.is("board(" + board + ", 1)", 1, x.board(board, 1));
            }
            Due.is("count(10)", 4, x.count(10));
        });
        Due.sentence(p + "no board just below", x -> Due.is("seal(-1)", NO_SUCH, x.seal(-1)));
        Due.sentence(p + "no board just above", x -> Due.is("seal(4)", NO_SUCH, x.seal(4)));
        Due.sentence(p + "no board far off", x -> {
            Due.is("seal(MIN)", NO_SUCH, x.seal(LEAST));
            Due.is("seal(MAX)", NO_SUCH, x.seal(GREATEST));
        });
        Due.sentence(p + "not possible without cards", fresh -> {
            SealedDeals x = Given.dealtFrom(0);
            Due.is("seal(1)", NOT_POSSIBLE, x.seal(1));
            Due.is("seal(3)", NOT_POSSIBLE, x.seal(3));
        });
        Due.sentence(p + "not possible if it is sealed", fresh -> {
            SealedDeals x = Given.dealtFrom(0);
            x.seal(0);
            Due.is("seal(0)", NOT_POSSIBLE, x.seal(0));
            Due.is("count(10)", 1, x.count(10));
        });
        Due.sentence(p + "possible again when it is opened", fresh -> {
            SealedDeals x = Given.dealtFrom(0);
            x.seal(0);
            x.open(0);
            Due.is("seal(0)", 1, x.seal(0));
        });
        Due.sentence(p + "a certificate stays", fresh -> {
            SealedDeals x = Given.dealtFrom(0);
            x.shuffle();
            x.seal(0);
            Due.is("count(4)", 1, x.count(4));
        });
    }

    private static void open() {
        String p = "Promise 11, open: ";
        Due.sentence(p + "the first board", x -> sealAndOpen(x, 0));
        Due.sentence(p + "the last board", x -> sealAndOpen(x, 3));
        Due.sentence(p + "no board just below", x -> Due.is("open(-1)", NO_SUCH, x.open(-1)));
        Due.sentence(p + "no board just above", x -> Due.is("open(4)", NO_SUCH, x.open(4)));
        Due.sentence(p + "no board far off", x -> {
            Due.is("open(MIN)", NO_SUCH, x.open(LEAST));
            Due.is("open(MAX)", NO_SUCH, x.open(GREATEST));
        });
        Due.sentence(p + "not possible without cards", x -> Due.is("open(0)", NOT_POSSIBLE, x.open(0)));
        Due.sentence(p + "not possible if it was never sealed", fresh ->
            Due.is("open(0)", NOT_POSSIBLE, Given.dealtFrom(0).open(0)));
        Due.sentence(p + "not possible if it is opened", fresh -> {
            SealedDeals x = Given.dealtFrom(0);
            x.seal(0);
            x.open(0);
            Due.is("open(0)", NOT_POSSIBLE, x.open(0));
            Due.is("board(0, 2)", 1, x.board(0, 2));
            Due.is("count(9)", 1, x.count(9));
        });
        Due.sentence(p + "its own replays, not those of another board", fresh -> {
            SealedDeals x = Given.dealtFrom(0);
            Given.dealNext(x, 3);
            for (int replay = 1; replay <= 3; replay++) {
                x.seal(0);
                Due.is("open(0)", replay, x.open(0));
            }
            x.seal(3);
            Due.is("open(3)", 1, x.open(3));
            Due.is("count(9)", 4, x.count(9));
        });
        Due.sentence(p + "a replay has the same cards", fresh -> {
            SealedDeals x = Given.inOrderAndCertified();
            x.deal(2);
            x.seal(2);
            x.seed(1);
            x.shuffle();
            x.open(2);
            for (int card = 0; card < 52; card++) {
                Due.is("holder(2, " + card + ")", card % 4, x.holder(2, card));
            }
        });
    }

    private static void sealAndOpen(SealedDeals x, int board) {
        x.set(0, 51);
        Given.dealNext(x, board);
        x.seal(board);
        Due.is("open(" + board + ")", 1, x.open(board));
        Due.is("board(" + board + ", 1)", 0, x.board(board, 1));
        Due.is("board(" + board + ", 2)", 1, x.board(board, 2));
        Due.is("count(10)", 0, x.count(10));
    }
}
