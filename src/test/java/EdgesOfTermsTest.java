/** The boundary cases of the document's "Terms" and of promise 1, a test for each sentence. */
public final class EdgesOfTermsTest {
    private static final int NO_SUCH = -1, BAD_VALUE = -2, BAD_TEXT = -3, TOO_MANY = -4, NOT_POSSIBLE = -5, NONE = -6;

    public static void main(String[] args) {
        calls();
        conventions();
        cards();
        newObject();
        drawings();
        packets();
        takings();
        sticking();
        shuffles();
        pairs();
        certificates();
        dealing();
        points();
        balance();
        texts();
        Due.finish();
    }

    private static void calls() {
        Due.sentence("What it is, at most 512 calls: the 512th one", x -> {
            for (int call = 1; call < 512; call++) {
                x.shuffle();
            }
            Due.is("count(6)", 511, x.count(6));
        });
        Due.sentence("What it is, at most 512 calls: the 512th one is an undo", x -> {
            for (int call = 1; call < 512; call++) {
                x.seed(call);
            }
            Due.is("undo()", 3, x.undo());
        });
    }

    private static void conventions() {
        Due.sentence("Terms, CONVENTIONS, each error code has its number", x -> {
            Due.is("NO_SUCH", NO_SUCH, x.card(52));
            Due.is("BAD_VALUE", BAD_VALUE, x.cut(0));
            Due.is("BAD_TEXT", BAD_TEXT, x.read());
            Given.write(x, Given.cards(20));
            Due.is("TOO_MANY", TOO_MANY, x.put(Given.packed(",c")));
            Due.is("NOT_POSSIBLE", NOT_POSSIBLE, x.undo());
            Due.is("NONE", NONE, x.worstBend());
        });
        Due.sentence("Terms, CONVENTIONS, everything is numbered from 0", x -> {
            x.set(0, 51);
            x.shuffle();
            Due.holds("the first board", x.deal(0) >= 0);
            Due.holds("the last board", x.board(3, 0) == 0 && x.board(4, 0) == NO_SUCH);
            Due.holds("the first and the last hand", x.hand(0, 0, 0) >= 0 && x.hand(0, 3, 0) >= 0);
            Due.is("the first slot", 1, x.save(0));
            Due.is("the last slot", 1, x.save(1));
            Due.is("the first place", 0, x.placeOf(x.card(0)));
            Due.is("the last place", 51, x.placeOf(x.card(51)));
        });
    }

    private static void cards() {
        for (int suit = 0; suit < 4; suit++) {
            numberIs("" + Given.SUITS.charAt(suit) + '2', 13 * suit);
            numberIs("" + Given.SUITS.charAt(suit) + 'a', 13 * suit + 12);
        }
    }

    private static void numberIs(String card, int number) {
        Due.sentence("Terms, the pack, the number of " + card, x -> {
            Given.write(x, card);
            Due.is("read()", 1, x.read());
            Due.is("worstBend()", number, x.worstBend());
        });
    }

    private static void newObject() {
        String p = "Promise 1: ";
        Due.sentence(p + "at first the pack lies in order, the card 0 on top", x -> Given.packIs("new", Given.inOrder(0), x));
        Due.sentence(p + "at first no card is bent", x -> {
            Due.is("count(3)", 0, x.count(3));
            Due.is("worstBend()", NONE, x.worstBend());
        });
        Due.sentence(p + "x is 1 at first", x -> Due.is("count(2)", 1, x.count(2)));
        Due.sentence(p + "the first values of the settings", x -> {
            Due.is("KEEPS", 8, x.count(0));
            Due.is("RIFFLES", 3, x.count(1));
        });
        Due.sentence(p + "boards without cards", x -> {
            for (int board = 0; board < 4; board++) {
                Due.is("board(" + board + ", 0)", 0, x.board(board, 0));
                Due.is("board(" + board + ", 1)", 0, x.board(board, 1));
                Due.is("board(" + board + ", 2)", 0, x.board(board, 2));
                Due.is("board(" + board + ", 3)", NONE, x.board(board, 3));
                Due.is("board(" + board + ", 4)", 0, x.board(board, 4));
            }
        });
        Due.sentence(p + "a new pack is not certified", x -> {
            Due.is("count(4)", 0, x.count(4));
            Due.is("deal(0)", NOT_POSSIBLE, x.deal(0));
        });
        Due.sentence(p + "no shuffle, no deal, no replay as yet", x -> {
            Due.is("count(5)", NONE, x.count(5));
            for (int what = 6; what <= 10; what++) {
                Due.is("count(" + what + ")", 0, x.count(what));
            }
        });
        Due.sentence(p + "an empty pad, an empty history, empty slots", x -> {
            Due.is("count(12)", 0, x.count(12));
            Due.is("count(13)", 0, x.count(13));
            Due.is("undo()", NOT_POSSIBLE, x.undo());
            Due.is("restore(0)", NOT_POSSIBLE, x.restore(0));
            Due.is("restore(1)", NOT_POSSIBLE, x.restore(1));
        });
    }

    /** One riffle of the new pack, from this x, as the model tells it. */
    private static void riffleIsTheModels(SealedDeals x, int seed, int... bent) {
        Model model = new Model();
        model.set(1, 1);
        x.set(1, 1);
        model.seed(seed);
        x.seed(seed);
        for (int card : bent) {
            model.bend(card);
            x.bend(card);
        }
        Due.is("shuffle() from " + seed, model.shuffle(), x.shuffle());
        Due.is("count(2) from " + seed, model.count(2), x.count(2));
        for (int place = 0; place < 52; place++) {
            Due.is("card(" + place + ") from " + seed, model.card(place), x.card(place));
        }
    }

    /** With all cards bent one riffle draws two numbers: the packets' sizes, and which one comes first. */
    private static void wholePackets(SealedDeals x, int seed, int top) {
        x.set(1, 1);
        Given.bendAll(x);
        x.seed(seed);
        Due.is("shuffle() from " + seed, top == 0 ? 51 : 50, x.shuffle());
        Given.packIs("whole packets from " + seed, Given.inOrder(top), x);
        Due.is("count(2) from " + seed, Given.drawn(seed, 2), x.count(2));
    }

    private static void drawings() {
        String p = "Terms, to draw a number: ";
        Due.sentence(p + "x at its least", x -> wholePackets(x, 0, 24));
        Due.sentence(p + "x at its least, no card bent", x -> riffleIsTheModels(x, 0));
        Due.sentence(p + "x at its greatest, reckoned without overflow", x -> wholePackets(x, Integer.MAX_VALUE, 28));
        Due.sentence(p + "x at its greatest, no card bent", x -> riffleIsTheModels(x, Integer.MAX_VALUE));
        Due.sentence(p + "x becomes 0", x -> {
            Due.is("the first x drawn", 0, Given.drawn(2088216195, 1));
            riffleIsTheModels(x, 2088216195);
        });
        Due.sentence(p + "x becomes 2147483647", x -> {
            Due.is("the first x drawn", Integer.MAX_VALUE, Given.drawn(230538014, 1));
            riffleIsTheModels(x, 230538014);
        });
        Due.sentence(p + "rounded down: x / 65536 just below the number 26", x -> {
            Due.is("the second x drawn", 26 * 65536 - 1, Given.drawn(1741620057, 2));
            wholePackets(x, 1741620057, 0);
        });
        Due.sentence(p + "rounded down: x / 65536 just the number 80", x -> {
            Due.is("the second x drawn", 80 * 65536, Given.drawn(1610717490, 2));
            wholePackets(x, 1610717490, 28);
        });
        Due.sentence(p + "left over by m: just below it", x -> {
            Due.is("the second x drawn", 52 * 65536 - 1, Given.drawn(534315865, 2));
            wholePackets(x, 534315865, 28);
        });
        Due.sentence(p + "left over by m: just m makes 0", x -> {
            Due.is("the second x drawn", 52 * 65536, Given.drawn(2084935986, 2));
            wholePackets(x, 2084935986, 0);
        });
    }

    /** From the first seed of each size the second number drawn is just the size, from the other one 1 less. */
    private static void packets() {
        String p = "Terms, riffles: ";
        int[] lowerFirst = {14, 79, 144, 241, 541};
        int[] upperFirst = {178, 11, 446, 279, 112};
        for (int number = 0; number < 5; number++) {
            int size = 24 + number;
            int lower = lowerFirst[number];
            int upper = upperFirst[number];
            Due.sentence(p + "an upper packet of " + size + ", a number that is just its cards takes the lower one",
                x -> {
                    Due.is("the number", size, Given.drawn(lower, 2) / 65536 % 52);
                    wholePackets(x, lower, size);
                });
            Due.sentence(p + "an upper packet of " + size + ", a number 1 below its cards takes it", x -> {
                Due.is("the number", size - 1, Given.drawn(upper, 2) / 65536 % 52);
                wholePackets(x, upper, 0);
            });
        }
        Due.sentence(p + "the number 0 takes the upper packet", x -> wholePackets(x, 329, 0));
        Due.sentence(p + "the greatest number, 51, takes the lower packet", x -> wholePackets(x, 696, 24));
    }

    private static void takings() {
        String p = "Terms, riffles, when one packet is empty, the other one comes beneath, without drawing: ";
        takes(p + "one card is left of the lower one", 0, 52);
        takes(p + "one card is left of the upper one", 7, 52);
        takes(p + "twelve cards are left of the lower one", 54767, 41);
        takes(p + "twelve cards are left of the upper one", 9031, 41);
    }

    private static void takes(String sentence, int seed, int drawings) {
        Due.sentence(sentence, x -> {
            riffleIsTheModels(x, seed);
            Due.is("count(2) behind " + drawings + " drawings", Given.drawn(seed, drawings), x.count(2));
        });
    }

    private static void sticking() {
        String p = "Terms, riffles, a card that is bent: ";
        Due.sentence(p + "the last one of the upper packet takes none of the other packet", x -> {
            riffleIsTheModels(x, 0, 23);
            Due.is("as if it were flat: count(2)", Given.drawn(0, 52), x.count(2));
        });
        Due.sentence(p + "the last one of the lower packet takes none of the other packet", x -> {
            riffleIsTheModels(x, 7, 51);
            Due.is("as if it were flat: count(2)", Given.drawn(7, 52), x.count(2));
        });
        Due.sentence(p + "the last but one of the pack takes the last one", x -> {
            riffleIsTheModels(x, 0, 50);
            Due.is("placeOf(51)", x.placeOf(50) + 1, x.placeOf(51));
        });
        Due.sentence(p + "the card on top takes the next one, even if that is flat", x -> {
            riffleIsTheModels(x, 0, 0);
            Due.is("placeOf(1)", x.placeOf(0) + 1, x.placeOf(1));
            Due.holds("the next one takes none", x.placeOf(2) != x.placeOf(1) + 1);
        });
        Due.sentence(p + "the top one of the lower packet takes the next one", x -> {
            riffleIsTheModels(x, 7, 28);
            Due.is("placeOf(29)", x.placeOf(28) + 1, x.placeOf(29));
        });
        Due.sentence(p + "a run of them to the end of a packet empties it, and the other one comes beneath", x -> {
            int[] upper = new int[24];
            for (int card = 0; card < 24; card++) {
                upper[card] = card;
            }
            riffleIsTheModels(x, 0, upper);
            for (int card = 1; card < 24; card++) {
                Due.is("placeOf(" + card + ")", x.placeOf(0) + card, x.placeOf(card));
            }
        });
        Due.sentence(p + "all of them", x -> wholePackets(x, Given.WHOLE_LOWER_FIRST, 24));
        Due.sentence(p + "all but the card on top", x -> {
            int[] others = new int[51];
            for (int card = 0; card < 51; card++) {
                others[card] = card + 1;
            }
            riffleIsTheModels(x, Given.WHOLE_UPPER_FIRST, others);
        });
    }

    private static void shuffles() {
        shuffleIsRiffles(1);
        shuffleIsRiffles(9);
    }

    private static void shuffleIsRiffles(int riffles) {
        Due.sentence("Terms, a shuffle is RIFFLES riffles: " + riffles, x -> {
            SealedDeals single = new SealedDeals();
            single.set(1, 1);
            x.set(1, riffles);
            x.shuffle();
            for (int riffle = 0; riffle < riffles; riffle++) {
                single.shuffle();
            }
            Due.is("count(2)", single.count(2), x.count(2));
            Due.is("count(6)", 1, x.count(6));
            for (int place = 0; place < 52; place++) {
                Due.is("card(" + place + ")", single.card(place), x.card(place));
            }
        });
    }

    private static void pairs() {
        String p = "Terms, a pair is kept: ";
        Due.sentence(p + "none", x -> {
            x.set(1, 9);
            Due.is("shuffle()", 0, x.shuffle());
            for (int place = 1; place < 52; place++) {
                Due.holds("none at " + place, x.card(place) != x.card(place - 1) + 1);
            }
        });
        Due.sentence(p + "all", x -> wholePackets(x, Given.WHOLE_UPPER_FIRST, 0));
        Due.sentence(p + "the last card and the card on top are no pair", x -> wholePackets(x, Given.WHOLE_LOWER_FIRST, 24));
        Due.sentence(p + "the same one above: a pair the other way round is not kept", x -> {
            x.seed(151);
            Due.is("shuffle()", 7, x.shuffle());
            int either = 0;
            for (int place = 1; place < 52; place++) {
                either += Math.abs(x.card(place) - x.card(place - 1)) == 1 ? 1 : 0;
            }
            Due.is("neighbours that were neighbours", 8, either);
        });
    }

    private static void certificates() {
        String p = "Terms, certified, if at most KEEPS pairs are kept: ";
        certifiedIs(p + "4 of 4", 4, 3, 4, 1);
        certifiedIs(p + "4 of 3", 3, 3, 4, 0);
        certifiedIs(p + "4 of 5", 5, 3, 4, 1);
        certifiedIs(p + "0 of 0", 0, 9, 0, 1);
        certifiedIs(p + "1 of 0", 0, 5, 1, 0);
        Due.sentence(p + "51 of 51", x -> {
            x.set(0, 51);
            wholePackets(x, Given.WHOLE_UPPER_FIRST, 0);
            Due.is("count(4)", 1, x.count(4));
        });
        Due.sentence(p + "51 of 50", x -> {
            x.set(0, 50);
            wholePackets(x, Given.WHOLE_UPPER_FIRST, 0);
            Due.is("count(4)", 0, x.count(4));
        });
        Due.sentence(p + "otherwise it is not: a certificate goes", x -> {
            x.shuffle();
            Due.is("count(4)", 1, x.count(4));
            x.set(1, 1);
            Due.holds("more than 8 are kept", x.shuffle() > 8);
            Due.is("count(4)", 0, x.count(4));
            Due.is("deal(0)", NOT_POSSIBLE, x.deal(0));
        });
    }

    private static void certifiedIs(String sentence, int keeps, int riffles, int kept, int certified) {
        Due.sentence(sentence, x -> {
            x.set(0, keeps);
            x.set(1, riffles);
            Due.is("shuffle()", kept, x.shuffle());
            Due.is("count(4)", certified, x.count(4));
            Due.is("count(7)", certified, x.count(7));
            Due.holds("deal(0)", certified == 1 ? x.deal(0) >= 0 : x.deal(0) == NOT_POSSIBLE);
        });
    }

    private static void dealing() {
        String p = "Terms, to deal: ";
        Due.sentence(p + "one card to each hand, and around, from the first place to the last", fresh -> {
            SealedDeals x = Given.inOrderAndCertified();
            x.deal(0);
            for (int card = 0; card < 52; card++) {
                Due.is("holder(0, " + card + ")", card % 4, x.holder(0, card));
            }
        });
        Due.sentence(p + "13 cards each", fresh -> {
            SealedDeals x = Given.dealtFrom(0);
            for (int hand = 0; hand < 4; hand++) {
                Due.is("cards of the hand " + hand, 13,
                    x.hand(0, hand, 0) + x.hand(0, hand, 1) + x.hand(0, hand, 2) + x.hand(0, hand, 3));
            }
        });
        Due.sentence(p + "the pack lies as it did", fresh -> {
            SealedDeals x = Given.inOrderAndCertified();
            x.deal(3);
            Given.packIs("dealt", Given.inOrder(0), x);
        });
        Due.sentence(p + "the certificate is used up by one deal", fresh -> {
            SealedDeals x = Given.inOrderAndCertified();
            x.deal(0);
            Due.is("count(4)", 0, x.count(4));
            Due.is("deal(1)", NOT_POSSIBLE, x.deal(1));
            Due.is("board(1, 0)", 0, x.board(1, 0));
        });
    }

    private static void points() {
        int[] ofRank = {0, 0, 0, 0, 0, 0, 0, 0, 0, 1, 2, 3, 4};
        Due.sentence("Terms, the points: 1 for a jack, none for a ten, 4 for an ace", fresh -> {
            for (int seed = 0; seed < 40; seed++) {
                SealedDeals x = Given.dealtFrom(seed);
                int[] points = new int[4];
                for (int card = 0; card < 52; card++) {
                    points[x.holder(0, card)] += ofRank[card % 13];
                }
                for (int hand = 0; hand < 4; hand++) {
                    Due.is("hand(0, " + hand + ", 4) from " + seed, points[hand], x.hand(0, hand, 4));
                }
            }
        });
        Due.sentence("Terms, the points: a hand with none", fresh -> {
            Due.is("hand(0, 0, 4)", 0, Given.dealtFrom(155).hand(0, 0, 4));
            Due.is("hand(0, 3, 4)", 0, Given.dealtFrom(49).hand(0, 3, 4));
        });
    }

    private static void balance() {
        String p = "Terms, balanced: ";
        balancedIs(p + "no suit with just 2", 1, 2, 1, 3, 4, 3, 3);
        balancedIs(p + "one suit with just 2, the diamonds", 1, 0, 1, 3, 2, 4, 4);
        balancedIs(p + "one suit with just 2, the clubs", 1, 4, 1, 2, 3, 5, 3);
        balancedIs(p + "two suits with just 2", 0, 0, 0, 4, 5, 2, 2);
        balancedIs(p + "two suits with just 2, beside 6", 0, 10, 0, 3, 2, 2, 6);
        balancedIs(p + "three suits with just 2", 0, 69, 1, 2, 2, 7, 2);
        balancedIs(p + "a suit with 1", 0, 1, 3, 4, 4, 4, 1);
        balancedIs(p + "a suit with 1, no other below 3", 0, 24, 3, 1, 6, 3, 3);
        balancedIs(p + "a suit with 1, one with just 2", 0, 3, 2, 2, 1, 6, 4);
        balancedIs(p + "a suit with 0", 0, 3, 3, 4, 5, 0, 4);
        balancedIs(p + "a suit with 0, no other below 3", 0, 37, 0, 3, 7, 3, 0);
    }

    private static void balancedIs(String sentence, int balanced, int seed, int hand, int... lengths) {
        Due.sentence(sentence, fresh -> {
            SealedDeals x = Given.dealtFrom(seed);
            for (int suit = 0; suit < 4; suit++) {
                Due.is("hand(0, " + hand + ", " + suit + ")", lengths[suit], x.hand(0, hand, suit));
            }
            Due.is("hand(0, " + hand + ", 5)", balanced, x.hand(0, hand, 5));
            Due.is("its bit of board(0, 4)", balanced, x.board(0, 4) >> hand & 1);
        });
    }

    private static void texts() {
        String p = "Terms, texts: ";
        Due.sentence(p + "at most 60 characters", x -> {
            Given.write(x, Given.cards(20) + ",");
            Due.is("count(12)", 60, x.count(12));
            Due.is("put of one more", TOO_MANY, x.put('c'));
        });
        Due.sentence(p + "just these suits, all other characters have the fault 0", fresh -> {
            for (char sign = 33; sign <= 126; sign++) {
                faultIs(sign + "2", Given.SUITS.indexOf(sign) >= 0 ? NONE : 0);
            }
        });
        Due.sentence(p + "just these ranks, all other characters have the fault 1", fresh -> {
            for (char sign = 33; sign <= 126; sign++) {
                faultIs("h" + sign, Given.RANKS.indexOf(sign) >= 0 ? NONE : 1);
            }
        });
        Due.sentence(p + "just a comma between cards, all other characters have the fault 2", fresh -> {
            for (char sign = 33; sign <= 126; sign++) {
                faultIs("s9" + sign + "da", sign == ',' ? NONE : 2);
            }
        });
    }

    private static void faultIs(String text, int fault) {
        SealedDeals x = new SealedDeals();
        x.put(Given.packed(text));
        Due.is("fault() of " + text, fault, x.fault());
    }
}
