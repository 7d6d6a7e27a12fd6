import java.math.BigInteger;

/** Objects in states that several tests start from, and what a test reckons for itself. */
final class Given {
    static final String SUITS = "cdhs";
    static final String RANKS = "23456789tjqka";

    /** From these x, with all cards bent, one riffle leaves the pack as it lies, or takes the lower 28 cards first. */
    static final int WHOLE_UPPER_FIRST = 178, WHOLE_LOWER_FIRST = 14;

    private Given() {
    }

    static long packed(String characters) {
        long number = 0;
        for (int index = 0; index < characters.length(); index++) {
            number = number << 8 | characters.charAt(index);
        }
        return number;
    }

    static void write(SealedDeals x, String text) {
        int length = x.count(12);
        for (int start = 0; start < text.length(); start += 8) {
            String part = text.substring(start, Math.min(start + 8, text.length()));
            length += part.length();
            Due.is("put of " + part, length, x.put(packed(part)));
        }
    }

    static String sign(int card) {
        return "" + SUITS.charAt(card / 13) + RANKS.charAt(card % 13);
    }

    /** A text without a fault; 20 cards make 59 characters. */
    static String cards(int many) {
        StringBuilder text = new StringBuilder();
        for (int card = 0; card < many; card++) {
            text.append(card == 0 ? "" : ",").append(sign(card));
        }
        return text.toString();
    }

    static void packIs(String when, int[] cards, SealedDeals x) {
        for (int place = 0; place < 52; place++) {
            Due.is(when + ": card(" + place + ")", cards[place], x.card(place));
        }
    }

    static int[] inOrder(int top) {
        int[] cards = new int[52];
        for (int place = 0; place < 52; place++) {
            cards[place] = (top + place) % 52;
        }
        return cards;
    }

    static void bendAll(SealedDeals x) {
        for (int card = 0; card < 52; card++) {
            x.bend(card);
        }
    }

    /** Every shuffle gets a certificate, from this x. */
    static SealedDeals withAllCertified(int seed) {
        SealedDeals x = new SealedDeals();
        x.set(SealedDeals.KEEPS, 51);
        x.seed(seed);
        return x;
    }

    static SealedDeals dealtFrom(int seed) {
        SealedDeals x = withAllCertified(seed);
        x.shuffle();
        x.deal(0);
        return x;
    }

    static void dealNext(SealedDeals x, int board) {
        x.shuffle();
        Due.holds("deal(" + board + ") is possible", x.deal(board) >= 0);
    }

    /** The pack lies in order, and is certified; all cards are bent. */
    static SealedDeals inOrderAndCertified() {
        SealedDeals x = withAllCertified(WHOLE_UPPER_FIRST);
        x.set(SealedDeals.RIFFLES, 1);
        bendAll(x);
        Due.is("a shuffle that keeps all", 51, x.shuffle());
        return x;
    }

    /**
     * The hand of the board 0 has all spades. Of a riffle's cards those are flat behind which the other packet is to
     * come; from the seeds it does: first each of nine spades is laid upon three other cards, then the other four.
     */
    static SealedDeals withAllSpadesIn(int hand) {
        SealedDeals x = withAllCertified(3929385);
        x.set(SealedDeals.RIFFLES, 1);
        x.cut(39);
        bendAllBut(x, 39, 40, 41, 42, 43, 44, 45, 46, 47, 13, 16, 19, 22, 25, 28, 31, 34, 37, 38);
        x.shuffle();
        x.cut(16);
        x.bend(2);
        x.bend(5);
        x.bend(8);
        for (int card : new int[] {43, 44, 45, 46, 47, 25, 28, 31, 34, 37, 48, 49, 50, 51}) {
            x.bend(card);
        }
        x.seed(66319);
        x.shuffle();
        if (hand > 0) {
            x.cut(4 - hand);
        }
        x.deal(0);
        return x;
    }

    /**
     * The board 0 is dealt from the pack in order, the board 1 from one in which a card and the next one have changed
     * places: the card goes behind 28 others, and then behind 24 more, and so behind all 51 and once more the first.
     */
    static SealedDeals withTwoExchanged(int card) {
        SealedDeals x = inOrderAndCertified();
        x.deal(0);
        x.cut((card + 29) % 52);
        goBehindTheLowerPacket(x, 13, (card + 51) % 52);
        x.cut(24);
        goBehindTheLowerPacket(x, 16, (card + 28) % 52);
        int top = card == 0 ? 1 : 0;
        if (x.placeOf(top) > 0) {
            x.cut(x.placeOf(top));
        }
        x.deal(1);
        return x;
    }

    /** From these seeds the lower packet comes behind the first flat card, here the last but one of the upper packet. */
    private static void goBehindTheLowerPacket(SealedDeals x, int seed, int flat) {
        x.bend(flat);
        x.seed(seed);
        x.shuffle();
        x.bend(flat);
    }

    private static void bendAllBut(SealedDeals x, int... flat) {
        bendAll(x);
        for (int card : flat) {
            x.bend(card);
        }
    }

    /** x behind some drawings, reckoned without overflow. */
    static int drawn(int x, int times) {
        BigInteger left = BigInteger.valueOf(x);
        for (int time = 0; time < times; time++) {
            left = left.multiply(BigInteger.valueOf(1103515245L)).add(BigInteger.valueOf(12345L))
                .mod(BigInteger.valueOf(2147483648L));
        }
        return left.intValueExact();
    }
}
