/** Each promise of the document: ordinary answers, the edges it names, and wrong inputs in their order. */
public final class PromisesTest {
    private static final int NO_SUCH = -1, BAD_VALUE = -2, BAD_TEXT = -3, TOO_MANY = -4, NOT_POSSIBLE = -5, NONE = -6;

    /** The new pack, riffled once and three times from x = 1, reckoned apart from the class. */
    private static final int[] RIFFLED_ONCE = {27, 0, 1, 28, 2, 29, 3, 4, 30, 31, 32, 33, 5, 6, 34, 7, 8, 9, 35, 10,
        36, 11, 37, 38, 12, 39, 40, 13, 14, 15, 41, 16, 17, 42, 18, 19, 20, 43, 44, 21, 45, 46, 22, 23, 47, 24, 48,
        49, 50, 25, 26, 51};
    private static final int[] RIFFLED_THRICE = {14, 8, 27, 44, 0, 9, 35, 21, 1, 45, 46, 10, 15, 22, 28, 2, 41, 29, 3,
        16, 36, 4, 11, 30, 17, 37, 31, 32, 42, 33, 23, 18, 19, 5, 47, 38, 24, 12, 20, 6, 48, 34, 49, 7, 50, 39, 25,
        26, 40, 51, 43, 13};
    /** Riffled once from x = 1 with the cards 0, 26 and 51 bent. */
    private static final int[] RIFFLED_BENT = {27, 0, 1, 2, 28, 29, 3, 30, 4, 5, 6, 7, 8, 9, 10, 11, 31, 12, 13, 32,
        33, 34, 14, 35, 36, 15, 16, 37, 38, 39, 40, 17, 41, 18, 42, 43, 19, 44, 45, 20, 46, 47, 21, 22, 48, 49, 23,
        50, 24, 25, 51, 26};
    /** Pairs kept by 1 to 20 riffles of the new pack from x = 1. */
    private static final int[] KEPT_BY = {21, 7, 4, 3, 1, 3, 3, 2, 0, 0, 0, 0, 2, 4, 3, 3, 2, 2, 2, 1};

    public static void main(String[] args) {
        newObject();
        set();
        seed();
        bend();
        bentCardsStick();
        read();
        readTheLongestText();
        shuffle();
        certificate();
        cut();
        sort();
        deal();
        dealErrors();
        seal();
        open();
        card();
        placeOf();
        holder();
        hand();
        handErrors();
        board();
        boardErrors();
        count();
        alike();
        ifRiffled();
        needed();
        worstBend();
        put();
        putErrors();
        wipe();
        fault();
        undo();
        undoTakesBackAll();
        undoGivesTheHandsBack();
        undoLeavesThePadAndTheSlots();
        save();
        restore();
        Due.finish();
    }

    /** A change that fails is no change: nothing is recorded. */
    private static void unchanged(String when, int changes, SealedDeals x) {
        Due.is(when + ": count(13)", changes, x.count(13));
    }

    /** The board 0 is dealt from a pack in order: the hand of each card is its number left over by 4. */
    private static SealedDeals withBoardInOrder() {
        SealedDeals x = Given.withAllCertified(1);
        for (int card = 0; card < 52; card++) {
            x.bend(card);
        }
        x.shuffle();
        x.cut(x.placeOf(0));
        x.deal(0);
        return x;
    }

    /** The board 0 has clubs, diamonds, hearts, spades 5 3 2 3, 5 4 4 0, 2 2 4 5 and 1 4 3 5. */
    private static SealedDeals withWildBoard() {
        return Given.dealtFrom(551);
    }

    private static void newObject() {
        SealedDeals x = new SealedDeals();
        int[] counts = {8, 3, 1, 0, 0, NONE, 0, 0, 0, 0, 0, 51, 0, 0};
        for (int what = 0; what < 14; what++) {
            Due.is("new: count(" + what + ")", counts[what], x.count(what));
        }
        Given.packIs("new", Given.inOrder(0), x);
        for (int board = 0; board < 4; board++) {
            Due.is("new: board(" + board + ", 0)", 0, x.board(board, 0));
            Due.is("new: board(" + board + ", 1)", 0, x.board(board, 1));
            Due.is("new: board(" + board + ", 2)", 0, x.board(board, 2));
        }
        Due.is("new: restore(1)", NOT_POSSIBLE, x.restore(1));
        SealedDeals changed = new SealedDeals();
        changed.shuffle();
        changed.bend(3);
        changed.set(1, 9);
        Given.packIs("another one has changed", Given.inOrder(0), x);
        Due.is("another one has changed: count(3)", 0, x.count(3));
        Due.is("another one has changed: count(1)", 3, new SealedDeals().count(1));
    }

    private static void set() {
        SealedDeals x = new SealedDeals();
        Due.is("set(0, 0)", 8, x.set(0, 0));
        Due.is("set(0, 51)", 0, x.set(0, 51));
        Due.is("set(1, 1)", 3, x.set(1, 1));
        Due.is("set(1, 9)", 1, x.set(1, 9));
        x.undo();
        x.undo();
        x.undo();
        unchanged("one set is left", 1, x);
        Due.is("set(0, -1)", BAD_VALUE, x.set(0, -1));
        Due.is("set(0, 52)", BAD_VALUE, x.set(0, 52));
        Due.is("set(1, 0)", BAD_VALUE, x.set(1, 0));
        Due.is("set(1, 10)", BAD_VALUE, x.set(1, 10));
        Due.is("set(-1, 3)", BAD_VALUE, x.set(-1, 3));
        Due.is("set(2, 3)", BAD_VALUE, x.set(2, 3));
        Due.is("set(MIN, MAX)", BAD_VALUE, x.set(Integer.MIN_VALUE, Integer.MAX_VALUE));
        unchanged("bad sets", 1, x);
        Due.is("count(0)", 0, x.count(0));
        Due.is("count(1)", 3, x.count(1));
        Due.is("set(0, 0) again", 0, x.set(0, 0));
        unchanged("the same value is a change, too", 2, x);
    }

    private static void seed() {
        SealedDeals x = new SealedDeals();
        Due.is("seed(0)", 1, x.seed(0));
        Due.is("seed(MAX)", 0, x.seed(Integer.MAX_VALUE));
        Due.is("seed(-1)", BAD_VALUE, x.seed(-1));
        Due.is("seed(MIN)", BAD_VALUE, x.seed(Integer.MIN_VALUE));
        Due.is("count(2)", Integer.MAX_VALUE, x.count(2));
        unchanged("bad seeds", 2, x);
        x.set(1, 1);
        x.shuffle();
        Due.is("reckoned without overflow: count(2)", 1378400613, x.count(2));
    }

    private static void bend() {
        SealedDeals x = new SealedDeals();
        Due.is("bend(0)", 1, x.bend(0));
        Due.is("bend(51)", 2, x.bend(51));
        Due.is("bend(0) again", 1, x.bend(0));
        Due.is("bend(-1)", NO_SUCH, x.bend(-1));
        Due.is("bend(52)", NO_SUCH, x.bend(52));
        Due.is("bend(MAX)", NO_SUCH, x.bend(Integer.MAX_VALUE));
        Due.is("count(3)", 1, x.count(3));
        unchanged("bad bends", 3, x);
        Due.is("worstBend()", 51, x.worstBend());
        x.set(0, 51);
        x.shuffle();
        x.bend(7);
        Due.is("a certificate stays: count(4)", 1, x.count(4));
    }

    private static void bentCardsStick() {
        SealedDeals x = new SealedDeals();
        x.bend(0);
        x.bend(26);
        x.bend(51);
        x.set(1, 1);
        Due.is("shuffle() with bent cards", 24, x.shuffle());
        Given.packIs("bent", RIFFLED_BENT, x);
        Due.is("count(2)", 2054802212, x.count(2));
        SealedDeals all = new SealedDeals();
        for (int card = 0; card < 52; card++) {
            all.bend(card);
        }
        all.set(1, 1);
        Due.is("shuffle() with all bent", 50, all.shuffle());
        Given.packIs("all bent", Given.inOrder(27), all);
        Due.is("two numbers are drawn: count(2)", 377401575, all.count(2));
        Due.is("ifRiffled(1, 1)", 50, all.ifRiffled(1, 1));
    }

    private static void read() {
        SealedDeals x = new SealedDeals();
        x.bend(51);
        Given.write(x, "c2,sa,hk,d9,c2");
        Due.is("read()", 2, x.read());
        Due.is("the pad is empty: count(12)", 0, x.count(12));
        unchanged("bend and read", 2, x);
        Due.is("the king of hearts: bend(37)", 1, x.bend(37));
        Due.is("the nine of diamonds: bend(20)", 0, x.bend(20));
        Due.is("read() of an empty pad", BAD_TEXT, x.read());
        Given.write(x, "c2,");
        Due.is("read() of a text that ends early", BAD_TEXT, x.read());
        Due.is("the pad stays: count(12)", 3, x.count(12));
        Due.is("nothing is bent: count(3)", 0, x.count(3));
        unchanged("bad reads", 4, x);
        Due.is("undo()", 3, x.undo());
        Due.is("undo()", 2, x.undo());
        Due.is("bad reads recorded nothing: undo()", 1, x.undo());
        Due.is("undo of read: count(3)", 1, x.count(3));
        x.set(0, 51);
        x.shuffle();
        Given.write(x, "hq");
        x.read();
        Due.is("a certificate stays: count(4)", 1, x.count(4));
        String ranks = "23456789tjqka";
        String suits = "cdhs";
        SealedDeals each = new SealedDeals();
        for (int card = 0; card < 52; card++) {
            Given.write(each, "" + suits.charAt(card / 13) + ranks.charAt(card % 13));
            each.read();
            Due.is("the card alone is bent: worstBend()", card, each.worstBend());
            each.bend(card);
        }
    }

    private static void readTheLongestText() {
        SealedDeals x = new SealedDeals();
        StringBuilder text = new StringBuilder("sa");
        for (int card = 1; card < 20; card++) {
            text.append(",c").append("23456789tjqka".charAt(card % 13));
        }
        Given.write(x, text.toString());
        Due.is("count(12)", 59, x.count(12));
        Due.is("read() of 20 cards", 8, x.read());
    }

    private static void shuffle() {
        SealedDeals x = new SealedDeals();
        Due.is("shuffle()", 4, x.shuffle());
        Given.packIs("three riffles", RIFFLED_THRICE, x);
        Due.is("count(2)", 1589704933, x.count(2));
        unchanged("shuffle", 1, x);
        SealedDeals one = new SealedDeals();
        one.set(1, 1);
        Due.is("shuffle() of one riffle", 21, one.shuffle());
        Given.packIs("one riffle", RIFFLED_ONCE, one);
        Due.is("one riffle: count(2)", 60335757, one.count(2));
        one.shuffle();
        one.shuffle();
        Given.packIs("three shuffles of one riffle", RIFFLED_THRICE, one);
        Due.is("three shuffles of one riffle: count(6)", 3, one.count(6));
        SealedDeals nine = new SealedDeals();
        nine.set(1, 9);
        Due.is("shuffle() of nine riffles", 0, nine.shuffle());
    }

    private static void certificate() {
        SealedDeals x = new SealedDeals();
        x.set(0, 4);
        x.shuffle();
        Due.is("4 kept of at most 4: count(4)", 1, x.count(4));
        Due.is("4 kept of at most 4: count(7)", 1, x.count(7));
        x.set(0, 0);
        Due.is("it is certified behind the shuffle: count(4)", 1, x.count(4));
        x.undo();
        x.undo();
        x.set(0, 3);
        x.shuffle();
        Due.is("4 kept of at most 3: count(4)", 0, x.count(4));
        Due.is("4 kept of at most 3: count(6)", 1, x.count(6));
        Due.is("4 kept of at most 3: count(7)", 0, x.count(7));
        x.set(0, 51);
        Due.is("not before the next shuffle: count(4)", 0, x.count(4));
        x.shuffle();
        Due.is("count(4)", 1, x.count(4));
        x.seed(5);
        Due.is("seed leaves it: count(4)", 1, x.count(4));
        x.set(0, 0);
        x.set(1, 1);
        x.shuffle();
        Due.is("a shuffle that keeps pairs takes it away: count(4)", 0, x.count(4));
    }

    private static void cut() {
        SealedDeals x = new SealedDeals();
        Due.is("cut(1)", 1, x.cut(1));
        Given.packIs("cut(1)", Given.inOrder(1), x);
        Due.is("cut(51)", 0, x.cut(51));
        Given.packIs("cut(51)", Given.inOrder(0), x);
        Due.is("cut(30)", 30, x.cut(30));
        Given.packIs("cut(30)", Given.inOrder(30), x);
        Due.is("cut(0)", BAD_VALUE, x.cut(0));
        Due.is("cut(52)", BAD_VALUE, x.cut(52));
        Due.is("cut(-1)", BAD_VALUE, x.cut(-1));
        Due.is("cut(MAX)", BAD_VALUE, x.cut(Integer.MAX_VALUE));
        Given.packIs("bad cuts", Given.inOrder(30), x);
        unchanged("bad cuts", 3, x);
        x.shuffle();
        x.cut(5);
        Due.is("a certificate stays: count(4)", 1, x.count(4));
        Due.is("no shuffle: count(6)", 1, x.count(6));
    }

    private static void sort() {
        SealedDeals x = new SealedDeals();
        Due.is("sort() of a new pack", 0, x.sort());
        unchanged("sort", 1, x);
        x.cut(1);
        Due.is("sort() behind a cut", 52, x.sort());
        x.set(1, 1);
        x.shuffle();
        Due.is("one card lies at its place: placesOff", 51, placesOff(x));
        Due.is("sort() behind a riffle", 51, x.sort());
        Given.packIs("sort", Given.inOrder(0), x);
        x.set(0, 51);
        x.shuffle();
        Due.is("count(4)", 1, x.count(4));
        int kept = x.count(5);
        x.sort();
        Due.is("not certified then: count(4)", 0, x.count(4));
        Due.is("the latest shuffle stays: count(5)", kept, x.count(5));
    }

    private static int placesOff(SealedDeals x) {
        int off = 0;
        for (int place = 0; place < 52; place++) {
            off += x.card(place) == place ? 0 : 1;
        }
        return off;
    }

    private static void deal() {
        SealedDeals x = new SealedDeals();
        x.shuffle();
        int[] points = new int[4];
        for (int place = 0; place < 52; place++) {
            points[place % 4] += Math.max(0, RIFFLED_THRICE[place] % 13 - 8);
        }
        Due.is("deal(3)", points[0], x.deal(3));
        Given.packIs("the pack lies as it did", RIFFLED_THRICE, x);
        for (int place = 0; place < 52; place++) {
            Due.is("holder of the card at " + place, place % 4, x.holder(3, RIFFLED_THRICE[place]));
        }
        Due.is("the certificate is used up: count(4)", 0, x.count(4));
        Due.is("count(8)", 1, x.count(8));
        unchanged("deal", 2, x);
        x.seal(3);
        x.open(3);
        x.set(0, 51);
        x.shuffle();
        x.deal(3);
        Due.is("its replays are 0: board(3, 2)", 0, x.board(3, 2));
        Due.is("replays so far stay: count(9)", 1, x.count(9));
        Due.is("count(8)", 2, x.count(8));
        for (int place = 0; place < 52; place++) {
            Due.is("in place of the cards it had", place % 4, x.holder(3, x.card(place)));
        }
        Due.is("another board has none: board(0, 0)", 0, x.board(0, 0));
    }

    private static void dealErrors() {
        SealedDeals x = new SealedDeals();
        Due.is("deal(0) without a certificate", NOT_POSSIBLE, x.deal(0));
        Due.is("deal(-1) without a certificate", NO_SUCH, x.deal(-1));
        Due.is("deal(4) without a certificate", NO_SUCH, x.deal(4));
        x.set(0, 51);
        x.shuffle();
        x.deal(0);
        Due.is("deal(1): the certificate is used up", NOT_POSSIBLE, x.deal(1));
        x.seal(0);
        x.shuffle();
        unchanged("at most four", 4, x);
        x.undo();
        x.shuffle();
        int points = x.hand(0, 0, 4);
        Due.is("deal(0) of a sealed board", NOT_POSSIBLE, x.deal(0));
        Due.is("the hands stay", points, x.hand(0, 0, 4));
        Due.is("the certificate stays: count(4)", 1, x.count(4));
        Due.is("count(8)", 1, x.count(8));
        Due.is("deal(MAX)", NO_SUCH, x.deal(Integer.MAX_VALUE));
        Due.is("another board is possible", 1, x.deal(1) >= 0 ? 1 : 0);
    }

    private static void seal() {
        SealedDeals x = Given.withAllCertified(7);
        Due.is("seal(0) without cards", NOT_POSSIBLE, x.seal(0));
        Due.is("seal(-1)", NO_SUCH, x.seal(-1));
        Due.is("seal(4)", NO_SUCH, x.seal(4));
        unchanged("bad seals", 2, x);
        for (int board = 0; board < 4; board++) {
            x.shuffle();
            x.deal(board);
        }
        Due.is("seal(2)", 1, x.seal(2));
        Due.is("seal(2) again", NOT_POSSIBLE, x.seal(2));
        Due.is("seal(0)", 2, x.seal(0));
        Due.is("seal(3)", 3, x.seal(3));
        Due.is("board(3, 1)", 1, x.board(3, 1));
        Due.is("board(1, 1)", 0, x.board(1, 1));
        Due.is("undo()", 3, x.undo());
        Due.is("board(3, 1) behind undo", 0, x.board(3, 1));
        Due.is("board(3, 0) behind undo", 1, x.board(3, 0));
        Due.is("count(10) behind undo", 2, x.count(10));
        Due.is("undo()", 2, x.undo());
        Due.is("undo(), the second seal(2) is not recorded", 1, x.undo());
        Due.is("count(10)", 0, x.count(10));
    }

    private static void open() {
        SealedDeals x = Given.withAllCertified(7);
        Due.is("open(0) without cards", NOT_POSSIBLE, x.open(0));
        Due.is("open(4)", NO_SUCH, x.open(4));
        Due.is("open(-1)", NO_SUCH, x.open(-1));
        x.shuffle();
        x.deal(1);
        Due.is("open(1) that is not sealed", NOT_POSSIBLE, x.open(1));
        unchanged("bad opens", 4, x);
        x.seal(1);
        Due.is("open(1)", 1, x.open(1));
        Due.is("not sealed then: board(1, 1)", 0, x.board(1, 1));
        Due.is("open(1) again", NOT_POSSIBLE, x.open(1));
        x.seal(1);
        Due.is("open(1) the second time", 2, x.open(1));
        Due.is("board(1, 2)", 2, x.board(1, 2));
        x.shuffle();
        x.deal(2);
        x.seal(2);
        Due.is("open(2)", 1, x.open(2));
        Due.is("count(9)", 3, x.count(9));
        Due.is("count(10)", 0, x.count(10));
        x.undo();
        Due.is("undo: count(9)", 2, x.count(9));
        Due.is("undo: board(2, 1)", 1, x.board(2, 1));
        Due.is("undo: board(2, 2)", 0, x.board(2, 2));
    }

    private static void card() {
        SealedDeals x = new SealedDeals();
        x.shuffle();
        Due.is("card(0)", 14, x.card(0));
        Due.is("card(51)", 13, x.card(51));
        Due.is("card(-1)", NO_SUCH, x.card(-1));
        Due.is("card(52)", NO_SUCH, x.card(52));
        Due.is("card(MIN)", NO_SUCH, x.card(Integer.MIN_VALUE));
        Due.is("card(MAX)", NO_SUCH, x.card(Integer.MAX_VALUE));
    }

    private static void placeOf() {
        SealedDeals x = new SealedDeals();
        x.shuffle();
        for (int place = 0; place < 52; place++) {
            Due.is("placeOf(" + RIFFLED_THRICE[place] + ")", place, x.placeOf(RIFFLED_THRICE[place]));
        }
        Due.is("placeOf(-1)", NO_SUCH, x.placeOf(-1));
        Due.is("placeOf(52)", NO_SUCH, x.placeOf(52));
        Due.is("placeOf(MIN)", NO_SUCH, x.placeOf(Integer.MIN_VALUE));
        Due.is("placeOf(MAX)", NO_SUCH, x.placeOf(Integer.MAX_VALUE));
    }

    private static void holder() {
        SealedDeals x = withBoardInOrder();
        for (int card = 0; card < 52; card++) {
            Due.is("holder(0, " + card + ")", card % 4, x.holder(0, card));
        }
        Due.is("holder(1, 0) without cards", NONE, x.holder(1, 0));
        Due.is("holder(1, 52) without cards", NO_SUCH, x.holder(1, 52));
        Due.is("holder(0, -1)", NO_SUCH, x.holder(0, -1));
        Due.is("holder(0, 52)", NO_SUCH, x.holder(0, 52));
        Due.is("holder(-1, 0)", NO_SUCH, x.holder(-1, 0));
        Due.is("holder(4, 0)", NO_SUCH, x.holder(4, 0));
        x.shuffle();
        x.cut(1);
        Due.is("the board does not go with the pack", 3, x.holder(0, 3));
    }

    private static void handIs(SealedDeals x, int hand, int... whats) {
        for (int what = 0; what < 7; what++) {
            Due.is("hand(0, " + hand + ", " + what + ")", whats[what], x.hand(0, hand, what));
        }
    }

    private static void hand() {
        SealedDeals even = withBoardInOrder();
        handIs(even, 0, 4, 3, 3, 3, 10, 1, 9);
        handIs(even, 1, 3, 4, 3, 3, 10, 1, 10);
        handIs(even, 2, 3, 3, 4, 3, 10, 1, 11);
        handIs(even, 3, 3, 3, 3, 4, 10, 1, 12);
        SealedDeals wild = withWildBoard();
        int[] highest = new int[4];
        for (int hand = 0; hand < 4; hand++) {
            highest[hand] = NONE;
            for (int card = 39; card < 52; card++) {
                if (wild.holder(0, card) == hand) {
                    highest[hand] = card - 39;
                }
            }
        }
        Due.is("a hand without spades", NONE, highest[1]);
        handIs(wild, 0, 5, 3, 2, 3, 5, 1, highest[0]);
        handIs(wild, 1, 5, 4, 4, 0, 6, 0, NONE);
        handIs(wild, 2, 2, 2, 4, 5, 14, 0, highest[2]);
        handIs(wild, 3, 1, 4, 3, 5, 15, 0, highest[3]);
        Due.is("the two of spades alone: hand(0, 0, 6)", 0, Given.dealtFrom(26).hand(0, 0, 6));
        Due.is("the ace of hearts, but no spade: holder(0, 38)", 0, Given.dealtFrom(3).holder(0, 38));
        Due.is("the ace of hearts, but no spade: hand(0, 0, 6)", NONE, Given.dealtFrom(3).hand(0, 0, 6));
    }

    private static void handErrors() {
        SealedDeals x = withWildBoard();
        Due.is("hand(-1, 0, 0)", NO_SUCH, x.hand(-1, 0, 0));
        Due.is("hand(4, 0, 9)", NO_SUCH, x.hand(4, 0, 9));
        Due.is("hand(0, -1, 9)", NO_SUCH, x.hand(0, -1, 9));
        Due.is("hand(0, 4, 0)", NO_SUCH, x.hand(0, 4, 0));
        Due.is("hand(1, 4, 0) without cards", NO_SUCH, x.hand(1, 4, 0));
        Due.is("hand(0, 0, -1)", BAD_VALUE, x.hand(0, 0, -1));
        Due.is("hand(0, 0, 7)", BAD_VALUE, x.hand(0, 0, 7));
        Due.is("hand(1, 0, 7) without cards", BAD_VALUE, x.hand(1, 0, 7));
        Due.is("hand(1, 3, 0) without cards", NONE, x.hand(1, 3, 0));
        Due.is("hand(1, 3, 6) without cards", NONE, x.hand(1, 3, 6));
        Due.is("hand(MIN, MAX, MIN)", NO_SUCH, x.hand(Integer.MIN_VALUE, Integer.MAX_VALUE, Integer.MIN_VALUE));
    }

    private static void board() {
        SealedDeals even = withBoardInOrder();
        Due.is("board(0, 0)", 1, even.board(0, 0));
        Due.is("all have 10 points: board(0, 3)", 0, even.board(0, 3));
        Due.is("all are balanced: board(0, 4)", 15, even.board(0, 4));
        SealedDeals wild = withWildBoard();
        Due.is("board(0, 3)", 3, wild.board(0, 3));
        Due.is("board(0, 4)", 1, wild.board(0, 4));
        SealedDeals tied = Given.withAllCertified(24);
        tied.shuffle();
        Due.is("deal(1)", 10, tied.deal(1));
        Due.is("hands 1 and 3 have 13 points: board(1, 3)", 1, tied.board(1, 3));
        Due.is("board(1, 4)", 2, tied.board(1, 4));
        Due.is("board(1, 1)", 0, tied.board(1, 1));
        tied.seal(1);
        Due.is("board(1, 1) sealed", 1, tied.board(1, 1));
        Due.is("board(1, 2)", 0, tied.board(1, 2));
        tied.open(1);
        Due.is("board(1, 2) replayed", 1, tied.board(1, 2));
    }

    private static void boardErrors() {
        SealedDeals x = new SealedDeals();
        Due.is("board(-1, 9)", NO_SUCH, x.board(-1, 9));
        Due.is("board(4, 0)", NO_SUCH, x.board(4, 0));
        Due.is("board(0, -1)", BAD_VALUE, x.board(0, -1));
        Due.is("board(0, 5)", BAD_VALUE, x.board(0, 5));
        Due.is("board(0, 3) without cards", NONE, x.board(0, 3));
        Due.is("board(0, 4) without cards", 0, x.board(0, 4));
        Due.is("board(0, 2) without cards", 0, x.board(0, 2));
    }

    private static void count() {
        SealedDeals x = new SealedDeals();
        Due.is("count(-1)", BAD_VALUE, x.count(-1));
        Due.is("count(14)", BAD_VALUE, x.count(14));
        Due.is("count(MIN)", BAD_VALUE, x.count(Integer.MIN_VALUE));
        x.cut(20);
        Due.is("the ace of spades above the two of clubs: count(11)", 50, x.count(11));
        x.sort();
        x.set(0, 21);
        x.set(1, 1);
        x.shuffle();
        x.deal(2);
        x.seal(2);
        x.bend(9);
        x.bend(10);
        x.put(Given.packed("c2"));
        int[] counts = {21, 1, 60335757, 2, 0, 21, 1, 1, 1, 0, 1, 21, 2, 4};
        for (int what = 0; what < 14; what++) {
            Due.is("count(" + what + ")", counts[what], x.count(what));
        }
        x.open(2);
        x.seal(2);
        x.open(2);
        Due.is("count(9)", 2, x.count(9));
        Due.is("count(10)", 0, x.count(10));
        x.set(0, 0);
        x.shuffle();
        Due.is("count(6)", 2, x.count(6));
        Due.is("count(7)", 1, x.count(7));
    }

    private static void alike() {
        SealedDeals x = Given.withAllCertified(1);
        Due.is("alike(0, 0) without cards", NONE, x.alike(0, 0));
        Due.is("alike(0, 4) without cards", NO_SUCH, x.alike(0, 4));
        Due.is("alike(-1, 0)", NO_SUCH, x.alike(-1, 0));
        Due.is("alike(4, -1)", NO_SUCH, x.alike(4, -1));
        x.shuffle();
        x.deal(0);
        Due.is("alike(0, 0)", 1, x.alike(0, 0));
        Due.is("alike(0, 1), one without cards", NONE, x.alike(0, 1));
        Due.is("alike(1, 0), one without cards", NONE, x.alike(1, 0));
        x.shuffle();
        x.deal(1);
        Due.is("alike(0, 1)", 0, x.alike(0, 1));
        x.sort();
        x.seed(1);
        x.shuffle();
        x.deal(2);
        x.seal(2);
        Due.is("the same hands: alike(0, 2)", 1, x.alike(0, 2));
        Due.is("the same hands: alike(2, 0)", 1, x.alike(2, 0));
        x.shuffle();
        x.sort();
        x.seed(1);
        x.shuffle();
        x.cut(4);
        x.deal(3);
        Due.is("a cut by 4 leaves each card its hand: alike(0, 3)", 1, x.alike(0, 3));
        SealedDeals turned = withBoardInOrder();
        turned.shuffle();
        turned.cut(turned.placeOf(1));
        Due.is("the three of clubs is on top: card(0)", 1, turned.card(0));
        turned.deal(1);
        Due.is("holder(1, 1)", 0, turned.holder(1, 1));
        Due.is("the same cards in other hands: alike(0, 1)", 0, turned.alike(0, 1));
    }

    private static void ifRiffled() {
        SealedDeals x = new SealedDeals();
        for (int riffles = 1; riffles <= 20; riffles++) {
            Due.is("ifRiffled(" + riffles + ", 0)", KEPT_BY[riffles - 1], x.ifRiffled(riffles, 0));
            Due.is("ifRiffled(" + riffles + ", 1)", KEPT_BY[riffles - 1], x.ifRiffled(riffles, 1));
        }
        Due.is("ifRiffled(0, 0)", BAD_VALUE, x.ifRiffled(0, 0));
        Due.is("ifRiffled(21, 0)", BAD_VALUE, x.ifRiffled(21, 0));
        Due.is("ifRiffled(1, -1)", BAD_VALUE, x.ifRiffled(1, -1));
        Due.is("ifRiffled(1, 2)", BAD_VALUE, x.ifRiffled(1, 2));
        Due.is("ifRiffled(MAX, MIN)", BAD_VALUE, x.ifRiffled(Integer.MAX_VALUE, Integer.MIN_VALUE));
        Given.packIs("nothing changes", Given.inOrder(0), x);
        Due.is("nothing changes: count(2)", 1, x.count(2));
        Due.is("nothing changes: count(5)", NONE, x.count(5));
        unchanged("what if", 0, x);
        x.shuffle();
        int kept = x.ifRiffled(3, 1);
        Due.is("from the pack as it lies now", kept, x.ifRiffled(3, 0));
        Due.is("as the shuffle does", kept, x.shuffle());
    }

    private static void needed() {
        SealedDeals x = new SealedDeals();
        Due.is("at most 8: needed()", 2, x.needed());
        int[] keeps = {51, 21, 20, 7, 6, 4, 3, 2, 1, 0};
        int[] riffles = {1, 1, 2, 2, 3, 3, 4, 5, 5, 9};
        for (int index = 0; index < keeps.length; index++) {
            x.set(0, keeps[index]);
            Due.is("at most " + keeps[index] + ": needed()", riffles[index], x.needed());
        }
        Due.is("nothing changes: count(2)", 1, x.count(2));
        x.seed(184);
        Due.is("0 are kept by 20 riffles alone: needed()", 20, x.needed());
        x.seed(1);
        for (int card = 0; card < 52; card++) {
            x.bend(card);
        }
        Due.is("all bent: needed()", NONE, x.needed());
        x.set(0, 49);
        Due.is("all bent, at most 49: needed()", NONE, x.needed());
        x.set(0, 50);
        Due.is("all bent, at most 50: needed()", 1, x.needed());
        Given.packIs("nothing changes", Given.inOrder(0), x);
    }

    private static void worstBend() {
        SealedDeals x = new SealedDeals();
        Due.is("worstBend() without bent cards", NONE, x.worstBend());
        x.bend(51);
        Due.is("worstBend() of one", 51, x.worstBend());
        x.bend(26);
        x.bend(0);
        // Without 0 and without 51 four pairs would be kept, without 26 six.
        Due.is("worstBend(), of several the lowest", 0, x.worstBend());
        Due.is("nothing changes: count(3)", 3, x.count(3));
        Due.is("nothing changes: count(2)", 1, x.count(2));
        unchanged("what if", 3, x);
        Due.is("all are bent as before: ifRiffled(1, 0)", 24, x.ifRiffled(1, 0));
        Given.packIs("nothing changes", Given.inOrder(0), x);
        SealedDeals other = new SealedDeals();
        int[] cards = {12, 50, 1, 2, 3};
        for (int card : cards) {
            other.bend(card);
        }
        int worst = NONE;
        int fewest = 52;
        for (int card = 0; card < 52; card++) {
            if (other.count(3) > other.bend(card)) {
                if (other.ifRiffled(3, 0) < fewest) {
                    fewest = other.ifRiffled(3, 0);
                    worst = card;
                }
            }
            other.bend(card);
        }
        Due.is("worstBend() of five", worst, other.worstBend());
    }

    private static void put() {
        SealedDeals x = new SealedDeals();
        Due.is("put of one", 1, x.put('c'));
        Due.is("put of two", 3, x.put(Given.packed("2,")));
        Due.is("put of eight", 11, x.put(Given.packed("d3,h4,s5")));
        Due.is("the first one is above: fault()", NONE, x.fault());
        Due.is("put(33)", 12, x.put(33));
        Due.is("put(126)", 13, x.put(126));
        unchanged("put is no change", 0, x);
        Due.is("fault()", 11, x.fault());
    }

    private static void putErrors() {
        SealedDeals x = new SealedDeals();
        Due.is("put(0)", BAD_VALUE, x.put(0));
        Due.is("put(32)", BAD_VALUE, x.put(32));
        Due.is("put(127)", BAD_VALUE, x.put(127));
        Due.is("put(-1)", BAD_VALUE, x.put(-1));
        Due.is("put(MIN)", BAD_VALUE, x.put(Long.MIN_VALUE));
        Due.is("put(MAX)", BAD_VALUE, x.put(Long.MAX_VALUE));
        Due.is("no last character", BAD_VALUE, x.put((long) 'c' << 8));
        Due.is("a gap", BAD_VALUE, x.put((long) 'c' << 16 | '2'));
        Due.is("a high bit above a gap", BAD_VALUE, x.put(1L << 63 | '2'));
        Due.is("a space in front", BAD_VALUE, x.put(32L << 8 | '2'));
        Due.is("a code over 126 as the eighth", BAD_VALUE, x.put(Given.packed("c2,d3,h4") | 1L << 63));
        Due.is("count(12)", 0, x.count(12));
        Given.write(x, "c2,d3,h4,s5,c6,d7,h8,s9,ct,dj,hq,sk,ca,d2,h3,s4,c5,d6,");
        Due.is("60 are not passed: put of seven", TOO_MANY, x.put(Given.packed("h7,s8,c")));
        Due.is("the value comes first", BAD_VALUE, x.put(1L << 63 | Given.packed("h7,s8,c")));
        Due.is("count(12)", 54, x.count(12));
        Due.is("put of six", 60, x.put(Given.packed("h7,s8,")));
        Due.is("put of one more", TOO_MANY, x.put('c'));
        Due.is("put(0)", BAD_VALUE, x.put(0));
        Due.is("fault() at 60", 60, x.fault());
        Due.is("wipe()", 60, x.wipe());
    }

    private static void wipe() {
        SealedDeals x = new SealedDeals();
        Due.is("wipe()", 0, x.wipe());
        Given.write(x, "c2,d");
        Due.is("wipe()", 4, x.wipe());
        Due.is("count(12)", 0, x.count(12));
        Due.is("wipe() again", 0, x.wipe());
        unchanged("wipe is no change", 0, x);
        Given.write(x, "s9");
        Due.is("the new text counts: read()", 1, x.read());
        Due.is("worstBend()", 46, x.worstBend());
    }

    private static void faultIs(String text, int fault) {
        SealedDeals x = new SealedDeals();
        Given.write(x, text);
        Due.is("fault() of " + text, fault, x.fault());
        Due.is("the pad stays", text.length(), x.count(12));
        if (fault == NONE) {
            Due.is("read() of " + text, (text.length() + 1) / 3, x.read());
        } else {
            Due.is("read() of " + text, BAD_TEXT, x.read());
        }
    }

    private static void fault() {
        faultIs("", 0);
        faultIs("c", 1);
        faultIs("c2", NONE);
        faultIs("c2,", 3);
        faultIs("c2,d", 4);
        faultIs("c2,da", NONE);
        faultIs("c2,da,ht,sj,cq,dk", NONE);
        faultIs("C2", 0);
        faultIs("x2", 0);
        faultIs("2c", 0);
        faultIs(",", 0);
        faultIs("c1", 1);
        faultIs("c0", 1);
        faultIs("cA", 1);
        faultIs("cc", 1);
        faultIs("c,", 1);
        faultIs("c10", 1);
        faultIs("c2d3", 2);
        faultIs("c2;d3", 2);
        faultIs("c2,,", 3);
        faultIs("c2,d3,h", 7);
        faultIs("c2,d3,x4,y", 6);
    }

    private static void undo() {
        SealedDeals x = new SealedDeals();
        Due.is("undo() of nothing", NOT_POSSIBLE, x.undo());
        for (int number = 10; number < 16; number++) {
            x.seed(number);
        }
        Due.is("count(13)", 4, x.count(13));
        for (int left = 3; left >= 0; left--) {
            Due.is("undo()", left, x.undo());
            Due.is("count(2)", 11 + left, x.count(2));
        }
        Due.is("the oldest ones are dropped: undo()", NOT_POSSIBLE, x.undo());
        Due.is("count(2)", 11, x.count(2));
        x.seed(20);
        x.seed(21);
        x.undo();
        x.seed(22);
        Due.is("undo()", 1, x.undo());
        Due.is("count(2)", 20, x.count(2));
        Due.is("undo()", 0, x.undo());
        Due.is("count(2)", 11, x.count(2));
    }

    private static void undoTakesBackAll() {
        SealedDeals x = Given.withAllCertified(1);
        x.shuffle();
        x.deal(1);
        Due.is("board(1, 0)", 1, x.board(1, 0));
        x.undo();
        Due.is("deal: count(4)", 1, x.count(4));
        Due.is("deal: count(8)", 0, x.count(8));
        Due.is("deal: board(1, 0)", 0, x.board(1, 0));
        x.undo();
        Given.packIs("shuffle", Given.inOrder(0), x);
        Due.is("shuffle: count(2)", 1, x.count(2));
        Due.is("shuffle: count(4)", 0, x.count(4));
        Due.is("shuffle: count(5)", NONE, x.count(5));
        Due.is("shuffle: count(6)", 0, x.count(6));
        Due.is("shuffle: count(7)", 0, x.count(7));
        x.undo();
        x.undo();
        Due.is("set: count(0)", 8, x.count(0));
        x.bend(4);
        x.cut(3);
        x.undo();
        Given.packIs("cut", Given.inOrder(0), x);
        x.undo();
        Due.is("bend: count(3)", 0, x.count(3));
        x.cut(3);
        x.sort();
        x.undo();
        Given.packIs("sort", Given.inOrder(3), x);
        x.set(1, 9);
        x.undo();
        Due.is("set: count(1)", 3, x.count(1));
    }

    private static void undoGivesTheHandsBack() {
        SealedDeals x = Given.dealtFrom(551);
        int[] holders = new int[52];
        for (int card = 0; card < 52; card++) {
            holders[card] = x.holder(0, card);
        }
        x.save(1);
        x.shuffle();
        x.deal(0);
        Due.is("other hands: hand(0, 1, 3)", 1, x.hand(0, 1, 3) > 0 ? 1 : 0);
        x.undo();
        for (int card = 0; card < 52; card++) {
            Due.is("undo of deal: holder(0, " + card + ")", holders[card], x.holder(0, card));
        }
        x.deal(0);
        x.restore(1);
        for (int card = 0; card < 52; card++) {
            Due.is("restored: holder(0, " + card + ")", holders[card], x.holder(0, card));
        }
    }

    private static void undoLeavesThePadAndTheSlots() {
        SealedDeals x = new SealedDeals();
        Given.write(x, "c2");
        x.read();
        Given.write(x, "d3,");
        x.seed(5);
        x.save(0);
        Due.is("undo()", 1, x.undo());
        Due.is("undo() of read", 0, x.undo());
        Due.is("the pad stays: count(12)", 3, x.count(12));
        Due.is("the card is flat: count(3)", 0, x.count(3));
        Due.is("the slot stays: restore(0)", 0, x.restore(0));
        Due.is("count(2)", 5, x.count(2));
        Due.is("count(3)", 1, x.count(3));
        Due.is("undo() of restore", 0, x.undo());
        Due.is("count(2)", 1, x.count(2));
    }

    private static void save() {
        SealedDeals x = Given.withAllCertified(3);
        Due.is("save(0)", 0, x.save(0));
        x.shuffle();
        x.deal(3);
        x.shuffle();
        x.deal(0);
        unchanged("at most four", 4, x);
        Due.is("save(1)", 2, x.save(1));
        Due.is("save(0), over the old one", 2, x.save(0));
        Due.is("save(-1)", BAD_VALUE, x.save(-1));
        Due.is("save(2)", BAD_VALUE, x.save(2));
        x.undo();
        unchanged("save is no change", 3, x);
        x.undo();
        x.undo();
        x.undo();
        Due.is("restore(0)", 2, x.restore(0));
        Due.is("board(0, 0)", 1, x.board(0, 0));
    }

    private static void restore() {
        SealedDeals x = Given.withAllCertified(3);
        Due.is("restore(0) of nothing", NOT_POSSIBLE, x.restore(0));
        Due.is("restore(-1)", BAD_VALUE, x.restore(-1));
        Due.is("restore(2)", BAD_VALUE, x.restore(2));
        x.shuffle();
        x.deal(2);
        x.seal(2);
        x.open(2);
        x.bend(8);
        x.cut(9);
        x.set(1, 7);
        x.shuffle();
        x.save(1);
        Due.is("restore(0) of nothing", NOT_POSSIBLE, x.restore(0));
        int[] counts = new int[12];
        int[] pack = new int[52];
        for (int what = 0; what < 12; what++) {
            counts[what] = x.count(what);
        }
        for (int place = 0; place < 52; place++) {
            pack[place] = x.card(place);
        }
        x.deal(1);
        x.seal(2);
        x.bend(9);
        x.sort();
        x.set(0, 2);
        x.set(1, 2);
        x.seed(99);
        Given.write(x, "c2");
        Due.is("restore(1)", 1, x.restore(1));
        for (int what = 0; what < 12; what++) {
            Due.is("restored: count(" + what + ")", counts[what], x.count(what));
        }
        Given.packIs("restored", pack, x);
        Due.is("the pad stays: count(12)", 2, x.count(12));
        Due.is("restored: board(2, 1)", 0, x.board(2, 1));
        Due.is("restored: board(2, 2)", 1, x.board(2, 2));
        Due.is("restored: board(1, 0)", 0, x.board(1, 0));
        x.undo();
        Due.is("undo of restore: count(2)", 99, x.count(2));
        Due.is("undo of restore: board(2, 1)", 1, x.board(2, 1));
        x.restore(1);
        x.seed(77);
        Due.is("the slot keeps it: restore(1)", 1, x.restore(1));
        Due.is("count(2)", counts[2], x.count(2));
        unchanged("restore is a change", 4, x);
    }
}
