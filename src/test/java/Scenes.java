/** Objects at three places of their lives, at which calls are refused for different reasons. */
final class Scenes {
    private Scenes() {
    }

    /** Nothing has happened: no board has cards, and the pad, the history and the slots are empty. */
    static SealedDeals fresh() {
        return new SealedDeals();
    }

    /**
     * A certified pack, a full history, the slot 0 filled; the board 0 is sealed, the board 1 opened, the board 2
     * dealt, the board 3 without cards; the pad has a text without a fault.
     */
    static SealedDeals busy() {
        SealedDeals x = Given.withAllCertified(5);
        Given.dealNext(x, 0);
        x.seal(0);
        Given.dealNext(x, 1);
        x.seal(1);
        x.open(1);
        x.bend(7);
        x.save(0);
        Given.dealNext(x, 2);
        x.bend(0);
        x.bend(51);
        x.set(SealedDeals.RIFFLES, 5);
        x.shuffle();
        Given.write(x, "c2,d3,sa,d3");
        return x;
    }

    /** A pack without a certificate, all boards sealed, both slots filled, two changes to undo, the pad full. */
    static SealedDeals full() {
        SealedDeals x = Given.withAllCertified(9);
        x.bend(20);
        x.save(1);
        for (int board = 0; board < 4; board++) {
            Given.dealNext(x, board);
            x.seal(board);
        }
        x.cut(11);
        x.save(0);
        x.seed(77);
        x.set(SealedDeals.KEEPS, 2);
        x.bend(30);
        x.undo();
        x.undo();
        Given.write(x, Given.cards(20) + ",");
        return x;
    }
}
