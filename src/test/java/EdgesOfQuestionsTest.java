/** The boundary cases of promises 12 to 21, a test for each sentence. That they change nothing: RefusedCallsTest. */
public final class EdgesOfQuestionsTest {
    private static final int NO_SUCH = -1, BAD_VALUE = -2, NONE = -6;
    private static final int LEAST = Integer.MIN_VALUE, GREATEST = Integer.MAX_VALUE;

    public static void main(String[] args) {
        card();
        placeOf();
        holder();
        hand();
        handErrors();
        board();
        boardErrors();
        count();
        countErrors();
        countPairs();
        alike();
        ifRiffled();
        needed();
        worstBend();
        Due.finish();
    }

    private static void card() {
        String p = "Promise 12, card: ";
        Due.sentence(p + "0 for the top", x -> {
            x.cut(17);
            Due.is("card(0)", 17, x.card(0));
        });
        Due.sentence(p + "51 for the last", x -> {
            x.cut(17);
            Due.is("card(51)", 16, x.card(51));
        });
        Due.sentence(p + "no place just above the top", x -> Due.is("card(-1)", NO_SUCH, x.card(-1)));
        Due.sentence(p + "no place just beneath the last", x -> Due.is("card(52)", NO_SUCH, x.card(52)));
        Due.sentence(p + "no place far off", x -> {
            Due.is("card(MIN)", NO_SUCH, x.card(LEAST));
            Due.is("card(MAX)", NO_SUCH, x.card(GREATEST));
        });
    }

    private static void placeOf() {
        String p = "Promise 13, placeOf: ";
        Due.sentence(p + "the first card", x -> {
            Due.is("placeOf(0)", 0, x.placeOf(0));
            x.cut(1);
            Due.is("placeOf(0)", 51, x.placeOf(0));
        });
        Due.sentence(p + "the last card", x -> {
            Due.is("placeOf(51)", 51, x.placeOf(51));
            x.cut(51);
            Due.is("placeOf(51)", 0, x.placeOf(51));
        });
        Due.sentence(p + "no card just below", x -> Due.is("placeOf(-1)", NO_SUCH, x.placeOf(-1)));
        Due.sentence(p + "no card just above", x -> Due.is("placeOf(52)", NO_SUCH, x.placeOf(52)));
        Due.sentence(p + "no card far off", x -> {
            Due.is("placeOf(MIN)", NO_SUCH, x.placeOf(LEAST));
            Due.is("placeOf(MAX)", NO_SUCH, x.placeOf(GREATEST));
        });
    }

    private static void holder() {
        String p = "Promise 14, holder: ";
        Due.sentence(p + "the first and the last card, of the first board", fresh -> {
            SealedDeals x = Given.inOrderAndCertified();
            x.deal(0);
            Due.is("holder(0, 0)", 0, x.holder(0, 0));
            Due.is("holder(0, 51)", 3, x.holder(0, 51));
        });
        Due.sentence(p + "the first and the last card, of the last board", fresh -> {
            SealedDeals x = Given.inOrderAndCertified();
            x.deal(3);
            Due.is("holder(3, 0)", 0, x.holder(3, 0));
            Due.is("holder(3, 51)", 3, x.holder(3, 51));
        });
        Due.sentence(p + "no board just below", fresh -> Due.is("holder(-1, 0)", NO_SUCH, Given.dealtFrom(0).holder(-1, 0)));
        Due.sentence(p + "no board just above", fresh -> Due.is("holder(4, 0)", NO_SUCH, Given.dealtFrom(0).holder(4, 0)));
        Due.sentence(p + "no card just below", fresh -> Due.is("holder(0, -1)", NO_SUCH, Given.dealtFrom(0).holder(0, -1)));
        Due.sentence(p + "no card just above", fresh -> Due.is("holder(0, 52)", NO_SUCH, Given.dealtFrom(0).holder(0, 52)));
        Due.sentence(p + "no board or card far off", fresh -> {
            SealedDeals x = Given.dealtFrom(0);
            Due.is("holder(MIN, 0)", NO_SUCH, x.holder(LEAST, 0));
            Due.is("holder(MAX, 0)", NO_SUCH, x.holder(GREATEST, 0));
            Due.is("holder(0, MIN)", NO_SUCH, x.holder(0, LEAST));
            Due.is("holder(0, MAX)", NO_SUCH, x.holder(0, GREATEST));
            Due.is("holder(MIN, MAX)", NO_SUCH, x.holder(LEAST, GREATEST));
        });
        Due.sentence(p + "NONE without cards, on the first board and on the last", x -> {
            Due.is("holder(0, 0)", NONE, x.holder(0, 0));
            Due.is("holder(3, 51)", NONE, x.holder(3, 51));
        });
        Due.sentence(p + "NONE only if no error applies", x -> {
            Due.is("holder(0, -1)", NO_SUCH, x.holder(0, -1));
            Due.is("holder(3, 52)", NO_SUCH, x.holder(3, 52));
        });
    }

    private static void hand() {
        String p = "Promise 15, hand: ";
        for (int hand = 0; hand < 4; hand++) {
            int holding = hand;
            Due.sentence(p + "all 13 cards of a suit, and none of the others, in the hand " + hand, fresh ->
                handIs(Given.withAllSpadesIn(holding), holding, 0, 0, 0, 13, 10, 0, 12));
            Due.sentence(p + "none of a suit, beside the hand " + hand, fresh -> {
                SealedDeals x = Given.withAllSpadesIn(holding);
                for (int other = 0; other < 4; other++) {
                    Due.is("hand(0, " + other + ", 3)", other == holding ? 13 : 0, x.hand(0, other, 3));
                    Due.is("hand(0, " + other + ", 6)", other == holding ? 12 : NONE, x.hand(0, other, 6));
                }
            });
        }
        Due.sentence(p + "the first and the last hand of the last board", fresh -> {
            SealedDeals x = Given.inOrderAndCertified();
            x.deal(3);
            Due.is("hand(3, 0, 0)", 4, x.hand(3, 0, 0));
            Due.is("hand(3, 3, 3)", 4, x.hand(3, 3, 3));
        });
        Due.sentence(p + "its highest spade is the two, the rank 0", fresh -> {
            SealedDeals x = Given.dealtFrom(26);
            Due.is("hand(0, 0, 3)", 1, x.hand(0, 0, 3));
            Due.is("hand(0, 0, 6)", 0, x.hand(0, 0, 6));
        });
        Due.sentence(p + "its highest spade is the ace, the rank 12", fresh -> {
            SealedDeals x = Given.dealtFrom(28);
            Due.is("hand(0, 0, 3)", 1, x.hand(0, 0, 3));
            Due.is("hand(0, 0, 6)", 12, x.hand(0, 0, 6));
        });
        Due.sentence(p + "NONE without spades, also with the ace of hearts", fresh -> {
            SealedDeals x = Given.dealtFrom(3);
            Due.is("the ace of hearts: holder(0, 38)", 0, x.holder(0, 38));
            Due.is("hand(0, 0, 6)", NONE, x.hand(0, 0, 6));
        });
    }

    private static void handIs(SealedDeals x, int hand, int... whats) {
        for (int what = 0; what < 7; what++) {
            Due.is("hand(0, " + hand + ", " + what + ")", whats[what], x.hand(0, hand, what));
        }
    }

    private static void handErrors() {
        String p = "Promise 15, hand: ";
        Due.sentence(p + "no board just below", fresh -> Due.is("hand(-1, 0, 0)", NO_SUCH, Given.dealtFrom(0).hand(-1, 0, 0)));
        Due.sentence(p + "no board just above", fresh -> Due.is("hand(4, 0, 0)", NO_SUCH, Given.dealtFrom(0).hand(4, 0, 0)));
        Due.sentence(p + "no hand just below", fresh -> Due.is("hand(0, -1, 0)", NO_SUCH, Given.dealtFrom(0).hand(0, -1, 0)));
        Due.sentence(p + "no hand just above", fresh -> Due.is("hand(0, 4, 0)", NO_SUCH, Given.dealtFrom(0).hand(0, 4, 0)));
        Due.sentence(p + "what just below", fresh -> Due.is("hand(0, 0, -1)", BAD_VALUE, Given.dealtFrom(0).hand(0, 0, -1)));
        Due.sentence(p + "what just above", fresh -> Due.is("hand(0, 0, 7)", BAD_VALUE, Given.dealtFrom(0).hand(0, 0, 7)));
        Due.sentence(p + "arguments far off", fresh -> {
            SealedDeals x = Given.dealtFrom(0);
            for (int far : new int[] {LEAST, GREATEST}) {
                Due.is("hand(" + far + ", 0, 0)", NO_SUCH, x.hand(far, 0, 0));
                Due.is("hand(0, " + far + ", 0)", NO_SUCH, x.hand(0, far, 0));
                Due.is("hand(0, 0, " + far + ")", BAD_VALUE, x.hand(0, 0, far));
            }
        });
        Due.sentence(p + "NO_SUCH comes ahead of BAD_VALUE", fresh -> {
            SealedDeals x = Given.dealtFrom(0);
            Due.is("hand(4, 0, 7)", NO_SUCH, x.hand(4, 0, 7));
            Due.is("hand(-1, 0, -1)", NO_SUCH, x.hand(-1, 0, -1));
            Due.is("hand(0, 4, 7)", NO_SUCH, x.hand(0, 4, 7));
            Due.is("hand(0, -1, -1)", NO_SUCH, x.hand(0, -1, -1));
        });
        Due.sentence(p + "NONE without cards, for each what", x -> {
            for (int what = 0; what < 7; what++) {
                Due.is("hand(3, 3, " + what + ")", NONE, x.hand(3, 3, what));
            }
        });
        Due.sentence(p + "NONE only if no error applies", x -> {
            Due.is("hand(0, 4, 0) without cards", NO_SUCH, x.hand(0, 4, 0));
            Due.is("hand(0, -1, 6) without cards", NO_SUCH, x.hand(0, -1, 6));
            Due.is("hand(0, 0, -1) without cards", BAD_VALUE, x.hand(0, 0, -1));
            Due.is("hand(0, 0, 7) without cards", BAD_VALUE, x.hand(0, 0, 7));
        });
    }

    private static void board() {
        String p = "Promise 16, board: ";
        mostPointsIs(p + "the first hand", 0, 0);
        mostPointsIs(p + "the last hand", 3, 3);
        mostPointsIs(p + "of 0 and 1 the lowest", 0, 41);
        mostPointsIs(p + "of 0 and 3 the lowest", 0, 7);
        mostPointsIs(p + "of 1 and 2 the lowest", 1, 27);
        mostPointsIs(p + "of 2 and 3 the lowest", 2, 40);
        mostPointsIs(p + "of 1, 2 and 3 the lowest", 1, 1462);
        mostPointsIs(p + "of all four the lowest", 0, 845);
        balancedHandsAre(p + "no hand is balanced", 0, 3);
        balancedHandsAre(p + "the first hand alone is balanced", 1, 22);
        balancedHandsAre(p + "the last hand alone is balanced", 8, 20);
        balancedHandsAre(p + "all hands are balanced", 15, 16);
        Due.sentence(p + "all it tells of a board without cards", x -> {
            int[] due = {0, 0, 0, NONE, 0};
            for (int what = 0; what < 5; what++) {
                Due.is("board(0, " + what + ")", due[what], x.board(0, what));
                Due.is("board(3, " + what + ")", due[what], x.board(3, what));
            }
        });
        Due.sentence(p + "all it tells of the last board", fresh -> {
            SealedDeals x = Given.inOrderAndCertified();
            x.deal(3);
            x.seal(3);
            x.open(3);
            x.seal(3);
            int[] due = {1, 1, 1, 0, 15};
            for (int what = 0; what < 5; what++) {
                Due.is("board(3, " + what + ")", due[what], x.board(3, what));
            }
        });
    }

    private static void mostPointsIs(String sentence, int hand, int seed) {
        Due.sentence(sentence, fresh -> {
            SealedDeals x = Given.dealtFrom(seed);
            int best = 3;
            for (int other = 2; other >= 0; other--) {
                best = x.hand(0, other, 4) >= x.hand(0, best, 4) ? other : best;
            }
            Due.is("the lowest with most points", hand, best);
            Due.is("board(0, 3)", hand, x.board(0, 3));
        });
    }

    private static void balancedHandsAre(String sentence, int set, int seed) {
        Due.sentence(sentence, fresh -> Due.is("board(0, 4)", set, Given.dealtFrom(seed).board(0, 4)));
    }

    private static void boardErrors() {
        String p = "Promise 16, board: ";
        Due.sentence(p + "no board just below", x -> Due.is("board(-1, 0)", NO_SUCH, x.board(-1, 0)));
        Due.sentence(p + "no board just above", x -> Due.is("board(4, 0)", NO_SUCH, x.board(4, 0)));
        Due.sentence(p + "what just below", x -> Due.is("board(0, -1)", BAD_VALUE, x.board(0, -1)));
        Due.sentence(p + "what just above", x -> Due.is("board(0, 5)", BAD_VALUE, x.board(0, 5)));
        Due.sentence(p + "what out of range, on a board with cards", fresh -> {
            Due.is("board(0, -1)", BAD_VALUE, Given.dealtFrom(0).board(0, -1));
            Due.is("board(0, 5)", BAD_VALUE, Given.dealtFrom(0).board(0, 5));
        });
        Due.sentence(p + "arguments far off", x -> {
            for (int far : new int[] {LEAST, GREATEST}) {
                Due.is("board(" + far + ", 0)", NO_SUCH, x.board(far, 0));
                Due.is("board(0, " + far + ")", BAD_VALUE, x.board(0, far));
            }
        });
        Due.sentence(p + "NO_SUCH comes ahead of BAD_VALUE", x -> {
            Due.is("board(4, 5)", NO_SUCH, x.board(4, 5));
            Due.is("board(-1, -1)", NO_SUCH, x.board(-1, -1));
        });
    }

    private static void count() {
        String p = "Promise 17, count: ";
        Due.sentence(p + "0, the settings begin", x -> {
            x.set(0, 51);
            Due.is("count(0)", 51, x.count(0));
        });
        Due.sentence(p + "5, NONE ahead of a shuffle, 0 behind one that kept none", x -> {
            Due.is("count(5)", NONE, x.count(5));
            x.set(1, 9);
            x.shuffle();
            Due.is("count(5)", 0, x.count(5));
        });
        Due.sentence(p + "5, the latest shuffle alone", x -> {
            x.shuffle();
            x.shuffle();
            Due.is("count(5)", 5, x.count(5));
        });
        Due.sentence(p + "7, none of the shuffles was certified", x -> {
            x.set(0, 0);
            x.shuffle();
            Due.is("count(6)", 1, x.count(6));
            Due.is("count(7)", 0, x.count(7));
        });
        Due.sentence(p + "8, deals of the same board count, too", fresh -> {
            SealedDeals x = Given.dealtFrom(0);
            Given.dealNext(x, 0);
            Due.is("count(8)", 2, x.count(8));
        });
        Due.sentence(p + "10, all boards are sealed, then none", fresh -> {
            SealedDeals x = Given.withAllCertified(1);
            for (int board = 0; board < 4; board++) {
                Given.dealNext(x, board);
                x.seal(board);
            }
            Due.is("count(10)", 4, x.count(10));
            for (int board = 0; board < 4; board++) {
                x.open(board);
            }
            Due.is("count(10)", 0, x.count(10));
        });
        Due.sentence(p + "12, an empty and a full pad", x -> {
            Due.is("count(12)", 0, x.count(12));
            Given.write(x, Given.cards(20) + ",");
            Due.is("count(12)", 60, x.count(12));
        });
        Due.sentence(p + "13, an empty and a full history, the last what", x -> {
            for (int change = 0; change < 6; change++) {
                Due.is("count(13)", Math.min(change, 4), x.count(13));
                x.seed(change);
            }
        });
    }

    private static void countErrors() {
        String p = "Promise 17, count: ";
        Due.sentence(p + "what just below", x -> Due.is("count(-1)", BAD_VALUE, x.count(-1)));
        Due.sentence(p + "what just above", x -> Due.is("count(14)", BAD_VALUE, x.count(14)));
        Due.sentence(p + "what far off", x -> {
            Due.is("count(MIN)", BAD_VALUE, x.count(LEAST));
            Due.is("count(MAX)", BAD_VALUE, x.count(GREATEST));
        });
    }

    private static void countPairs() {
        String p = "Promise 17, count, 11: ";
        Due.sentence(p + "all 51, from suit to suit, too", x -> Due.is("count(11)", 51, x.count(11)));
        Due.sentence(p + "none", x -> {
            x.set(1, 9);
            x.shuffle();
            Due.is("count(11)", 0, x.count(11));
        });
        Due.sentence(p + "the card 0 beneath the card 51 is no pair", x -> {
            x.cut(20);
            Due.is("count(11)", 50, x.count(11));
        });
        Due.sentence(p + "the last card and the card on top are no pair", x -> {
            x.cut(51);
            Due.is("card(0)", 51, x.card(0));
            Due.is("card(51)", 50, x.card(51));
            Due.is("count(11)", 50, x.count(11));
        });
        Due.sentence(p + "1 more, not 1 less", x -> {
            x.seed(151);
            x.shuffle();
            int rising = 0;
            int falling = 0;
            for (int place = 1; place < 52; place++) {
                rising += x.card(place) - x.card(place - 1) == 1 ? 1 : 0;
                falling += x.card(place) - x.card(place - 1) == -1 ? 1 : 0;
            }
            Due.is("the next lower one lies beneath, so often", 1, falling);
            Due.is("count(11)", rising, x.count(11));
        });
    }

    private static void alike() {
        String p = "Promise 18, alike: ";
        Due.sentence(p + "a board and itself", fresh -> Due.is("alike(0, 0)", 1, Given.dealtFrom(0).alike(0, 0)));
        Due.sentence(p + "each card in the same hand, on the first board and on the last", fresh -> {
            SealedDeals x = Given.inOrderAndCertified();
            x.deal(0);
            x.seed(Given.WHOLE_UPPER_FIRST);
            Given.dealNext(x, 3);
            Due.is("alike(0, 3)", 1, x.alike(0, 3));
            Due.is("alike(3, 0)", 1, x.alike(3, 0));
        });
        Due.sentence(p + "a seal and a replay make no difference", fresh -> {
            SealedDeals x = Given.inOrderAndCertified();
            x.deal(1);
            x.seal(1);
            x.open(1);
            x.seal(1);
            x.seed(Given.WHOLE_UPPER_FIRST);
            Given.dealNext(x, 2);
            Due.is("alike(1, 2)", 1, x.alike(1, 2));
        });
        Due.sentence(p + "the same 13 cards together, but in other hands", fresh -> {
            SealedDeals x = Given.inOrderAndCertified();
            x.deal(0);
            x.seed(Given.WHOLE_UPPER_FIRST);
            x.shuffle();
            x.cut(1);
            x.deal(1);
            Due.is("alike(0, 1)", 0, x.alike(0, 1));
        });
        Due.sentence(p + "the two first cards alone are in other hands", fresh -> exchangedIsNotAlike(0));
        Due.sentence(p + "two cards between them alone are in other hands", fresh -> exchangedIsNotAlike(25));
        Due.sentence(p + "the two last cards alone are in other hands", fresh -> exchangedIsNotAlike(50));
        Due.sentence(p + "no board just below", fresh -> {
            Due.is("alike(-1, 0)", NO_SUCH, Given.dealtFrom(0).alike(-1, 0));
            Due.is("alike(0, -1)", NO_SUCH, Given.dealtFrom(0).alike(0, -1));
        });
        Due.sentence(p + "no board just above", fresh -> {
            Due.is("alike(4, 0)", NO_SUCH, Given.dealtFrom(0).alike(4, 0));
            Due.is("alike(0, 4)", NO_SUCH, Given.dealtFrom(0).alike(0, 4));
        });
        Due.sentence(p + "no board far off", fresh -> {
            for (int far : new int[] {LEAST, GREATEST}) {
                Due.is("alike(" + far + ", 0)", NO_SUCH, Given.dealtFrom(0).alike(far, 0));
                Due.is("alike(0, " + far + ")", NO_SUCH, Given.dealtFrom(0).alike(0, far));
            }
        });
        Due.sentence(p + "the same board that is none, twice", fresh -> Due.is("alike(4, 4)", NO_SUCH, Given.dealtFrom(0).alike(4, 4)));
        Due.sentence(p + "NONE if one of them has no cards", fresh -> {
            Due.is("alike(0, 3)", NONE, Given.dealtFrom(0).alike(0, 3));
            Due.is("alike(3, 0)", NONE, Given.dealtFrom(0).alike(3, 0));
        });
        Due.sentence(p + "NONE if both have no cards", x -> {
            Due.is("alike(1, 2)", NONE, x.alike(1, 2));
            Due.is("alike(1, 1)", NONE, x.alike(1, 1));
        });
        Due.sentence(p + "NONE only if no error applies", x -> {
            Due.is("alike(0, 4)", NO_SUCH, x.alike(0, 4));
            Due.is("alike(4, 0)", NO_SUCH, x.alike(4, 0));
        });
    }

    private static void exchangedIsNotAlike(int card) {
        SealedDeals x = Given.withTwoExchanged(card);
        for (int other = 0; other < 52; other++) {
            boolean same = other != card && other != card + 1;
            Due.holds("the hand of " + other, x.holder(0, other) == x.holder(1, other) == same);
        }
        Due.is("alike(0, 1)", 0, x.alike(0, 1));
        Due.is("alike(1, 0)", 0, x.alike(1, 0));
    }

    private static void ifRiffled() {
        String p = "Promise 19, ifRiffled: ";
        Due.sentence(p + "1 riffle", x -> Due.is("ifRiffled(1, 0)", 21, x.ifRiffled(1, 0)));
        Due.sentence(p + "20 riffles", x -> Due.is("ifRiffled(20, 0)", 1, x.ifRiffled(20, 0)));
        Due.sentence(p + "riffles just below", x -> Due.is("ifRiffled(0, 0)", BAD_VALUE, x.ifRiffled(0, 0)));
        Due.sentence(p + "riffles just above", x -> Due.is("ifRiffled(21, 0)", BAD_VALUE, x.ifRiffled(21, 0)));
        Due.sentence(p + "way just below", x -> Due.is("ifRiffled(1, -1)", BAD_VALUE, x.ifRiffled(1, -1)));
        Due.sentence(p + "way just above", x -> Due.is("ifRiffled(1, 2)", BAD_VALUE, x.ifRiffled(1, 2)));
        Due.sentence(p + "arguments far off", x -> {
            for (int far : new int[] {LEAST, GREATEST}) {
                Due.is("ifRiffled(" + far + ", 1)", BAD_VALUE, x.ifRiffled(far, 1));
                Due.is("ifRiffled(20, " + far + ")", BAD_VALUE, x.ifRiffled(20, far));
                Due.is("ifRiffled(" + far + ", " + far + ")", BAD_VALUE, x.ifRiffled(far, far));
            }
        });
        Due.sentence(p + "the same by both ways, from 1 riffle to 20", x -> {
            x.bend(0);
            x.bend(51);
            for (int riffles = 1; riffles <= 20; riffles++) {
                Due.is("ifRiffled(" + riffles + ", 1)", x.ifRiffled(riffles, 0), x.ifRiffled(riffles, 1));
            }
        });
        Due.sentence(p + "none is kept, by both ways", x -> {
            Due.is("ifRiffled(9, 0)", 0, x.ifRiffled(9, 0));
            Due.is("ifRiffled(9, 1)", 0, x.ifRiffled(9, 1));
        });
        Due.sentence(p + "all are kept, by both ways", x -> {
            Given.bendAll(x);
            x.seed(Given.WHOLE_UPPER_FIRST);
            Due.is("ifRiffled(1, 0)", 51, x.ifRiffled(1, 0));
            Due.is("ifRiffled(1, 1)", 51, x.ifRiffled(1, 1));
        });
        Due.sentence(p + "all but one are kept, by both ways", x -> {
            Given.bendAll(x);
            x.seed(Given.WHOLE_LOWER_FIRST);
            Due.is("ifRiffled(1, 0)", 50, x.ifRiffled(1, 0));
            Due.is("ifRiffled(1, 1)", 50, x.ifRiffled(1, 1));
        });
        Due.sentence(p + "a pair the other way round is not kept, by both ways", x -> {
            x.seed(151);
            Due.is("ifRiffled(3, 0)", 7, x.ifRiffled(3, 0));
            Due.is("ifRiffled(3, 1)", 7, x.ifRiffled(3, 1));
        });
        Due.sentence(p + "more riffles than a shuffle can have, whatever RIFFLES is", x -> {
            int kept = x.ifRiffled(10, 0);
            x.set(1, 9);
            Due.is("ifRiffled(10, 0)", kept, x.ifRiffled(10, 0));
            x.set(1, 1);
            Due.is("ifRiffled(10, 0)", kept, x.ifRiffled(10, 0));
        });
    }

    private static void needed() {
        String p = "Promise 20, needed: ";
        Due.sentence(p + "1, the least", x -> {
            x.set(0, 51);
            Due.is("needed()", 1, x.needed());
        });
        Due.sentence(p + "1, if just KEEPS pairs are kept", x -> {
            x.set(0, 21);
            Due.is("needed()", 1, x.needed());
        });
        Due.sentence(p + "more, if 1 pair more than KEEPS is kept", x -> {
            x.set(0, 20);
            Due.is("needed()", 2, x.needed());
        });
        Due.sentence(p + "20, the greatest", x -> {
            x.set(0, 0);
            x.seed(184);
            for (int riffles = 1; riffles < 20; riffles++) {
                Due.holds("ifRiffled(" + riffles + ", 0) is above 0", x.ifRiffled(riffles, 0) > 0);
            }
            Due.is("ifRiffled(20, 0)", 0, x.ifRiffled(20, 0));
            Due.is("needed()", 20, x.needed());
        });
        Due.sentence(p + "NONE, if it would be 21", x -> {
            x.set(0, 0);
            x.seed(784);
            Due.is("ifRiffled(20, 0)", 1, x.ifRiffled(20, 0));
            Due.is("needed()", NONE, x.needed());
        });
        Due.sentence(p + "NONE, if no number of riffles would do", x -> {
            Given.bendAll(x);
            Due.is("needed()", NONE, x.needed());
        });
        Due.sentence(p + "the least, if a greater one would not do", x -> {
            x.set(0, 1);
            Due.is("ifRiffled(6, 0)", 3, x.ifRiffled(6, 0));
            Due.is("needed()", 5, x.needed());
        });
        Due.sentence(p + "the same whatever RIFFLES is", x -> {
            x.set(1, 9);
            Due.is("needed()", 2, x.needed());
            x.set(1, 1);
            Due.is("needed()", 2, x.needed());
        });
    }

    private static void worstBend() {
        String p = "Promise 21, worstBend: ";
        Due.sentence(p + "NONE if no card is bent", x -> Due.is("worstBend()", NONE, x.worstBend()));
        Due.sentence(p + "NONE if the last bent card was flattened", x -> {
            x.bend(7);
            x.bend(7);
            Due.is("worstBend()", NONE, x.worstBend());
        });
        Due.sentence(p + "the first card, if it alone is bent", x -> {
            x.bend(0);
            Due.is("worstBend()", 0, x.worstBend());
        });
        Due.sentence(p + "the last card, if it alone is bent", x -> {
            x.bend(51);
            Due.is("worstBend()", 51, x.worstBend());
        });
        worstIs(p + "the last card, without which fewer are kept", 51, 1, 2, 0, 51);
        worstIs(p + "the first card, without which fewer are kept", 0, 1, 1, 0, 51);
        worstIs(p + "of two the lowest", 0, 1, 0, 0, 51);
        worstIs(p + "of three the lowest", 5, 3, 3, 5, 20, 40);
        worstIs(p + "by a shuffle of RIFFLES riffles, 3", 20, 3, 2, 5, 20, 40);
        worstIs(p + "by a shuffle of RIFFLES riffles, 9", 40, 9, 2, 5, 20, 40);
        Due.sentence(p + "all are bent, of several the lowest", x -> {
            Given.bendAll(x);
            x.set(1, 1);
            x.seed(Given.WHOLE_LOWER_FIRST);
            Due.is("worstBend()", 24, x.worstBend());
        });
        Due.sentence(p + "all are bent, and all pairs are kept, whichever is flat", x -> {
            Given.bendAll(x);
            x.set(1, 1);
            x.seed(Given.WHOLE_UPPER_FIRST);
            Due.is("worstBend()", 0, x.worstBend());
        });
    }

    private static void worstIs(String sentence, int worst, int riffles, int seed, int... bent) {
        Due.sentence(sentence, x -> {
            x.set(1, riffles);
            x.seed(seed);
            for (int card : bent) {
                x.bend(card);
            }
            Due.is("worstBend()", worst, x.worstBend());
        });
    }
}
