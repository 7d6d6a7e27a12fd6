/**
 * Machine that deals bridge hands: a pack that is riffled by drawn numbers, certificates, boards
 * that are sealed and opened again. What each method promises stands in DOC.md.
 *
 * <p>All rows are made with the object and used again, so that the calls make (nearly) nothing.
 */
public final class SealedDeals {
    public static final int NO_SUCH = -1, BAD_VALUE = -2, BAD_TEXT = -3, TOO_MANY = -4, NOT_POSSIBLE = -5, NONE = -6;
    public static final int KEEPS = 0, RIFFLES = 1;

    private static final int SETTINGS = 2;
    private static final int[] FIRST_VALUE = {8, 3};
    private static final int[] LOWEST_VALUE = {0, 1};
    private static final int[] HIGHEST_VALUE = {51, 9};

    private static final int CARDS = 52;
    private static final int SUITS = 4;
    private static final int RANKS = 13;
    private static final int SPADES = 3;
    private static final int BOARDS = 4;
    private static final int HANDS = 4;

    private static final int MOST_TRIED_RIFFLES = 20;
    private static final int PAD_LENGTH = 60;
    private static final int HISTORY = 4;
    private static final int SLOTS = 2;

    private final Table table;
    private final Trial trial;
    private final Pad pad;
    /** The states ahead of the latest changes, the oldest first; only the first "undoable" count. */
    private final Table[] history;
    private int undoable;
    /** A slot is null until something is saved in it. */
    private final Table[] slots;
    private final int[] spare;

    public SealedDeals() {
        table = new Table();
        trial = new Trial();
        pad = new Pad();
        history = new Table[HISTORY];
        for (int state = 0; state < HISTORY; state++) {
            history[state] = new Table();
        }
        undoable = 0;
        slots = new Table[SLOTS];
        spare = new int[CARDS];
    }

    // ---- changes

    public int set(int setting, int value) {
        if (setting < 0 || setting >= SETTINGS) {
            return BAD_VALUE;
        }
        if (value < LOWEST_VALUE[setting] || value > HIGHEST_VALUE[setting]) {
            return BAD_VALUE;
        }
        recordState();
        int previous = table.settings[setting];
        table.settings[setting] = value;
        return previous;
    }

    public int seed(int number) {
        if (number < 0) {
            return BAD_VALUE;
        }
        recordState();
        int previous = table.x;
        table.x = number;
        return previous;
    }

    public int bend(int card) {
        if (card < 0 || card >= CARDS) {
            return NO_SUCH;
        }
        recordState();
        table.bendOrFlatten(card);
        return table.bentCards();
    }

    public int read() {
        if (pad.firstFault() != NONE) {
            return BAD_TEXT;
        }
        recordState();
        for (int index = 0; index < pad.length; index += Pad.CARD_STEP) {
            table.bendOrFlatten(pad.cardAt(index));
        }
        pad.length = 0;
        return table.bentCards();
    }

    public int shuffle() {
        recordState();
        trial.begin(table);
        trial.riffleTimes(table.settings[RIFFLES]);
        int kept = trial.keptPairs(Trial.THROUGH_BEFORE);
        System.arraycopy(trial.pack, 0, table.pack, 0, CARDS);
        table.x = trial.x;
        table.countShuffle(kept);
        return kept;
    }

    public int cut(int cards) {
        if (cards < 1 || cards >= CARDS) {
            return BAD_VALUE;
        }
        recordState();
        System.arraycopy(table.pack, 0, spare, 0, CARDS);
        System.arraycopy(spare, cards, table.pack, 0, CARDS - cards);
        System.arraycopy(spare, 0, table.pack, CARDS - cards, cards);
        return table.pack[0];
    }

    public int sort() {
        recordState();
        table.certified = false;
        return table.layInOrder();
    }

    public int deal(int board) {
        Board given = table.boardAt(board);
        if (given == null) {
            return NO_SUCH;
        }
        if (given.closed || !table.certified) {
            return NOT_POSSIBLE;
        }
        recordState();
        given.giveOut(table.pack);
        table.certified = false;
        table.deals++;
        return given.pointsOf(0);
    }

    public int seal(int board) {
        Board closing = table.boardAt(board);
        if (closing == null) {
            return NO_SUCH;
        }
        if (!closing.hasCards || closing.closed) {
            return NOT_POSSIBLE;
        }
        recordState();
        closing.closed = true;
        return table.sealedBoards();
    }

    public int open(int board) {
        Board opening = table.boardAt(board);
        if (opening == null) {
            return NO_SUCH;
        }
        if (!opening.closed) {
            return NOT_POSSIBLE;
        }
        recordState();
        opening.closed = false;
        opening.replays++;
        table.replays++;
        return opening.replays;
    }

    // ---- what there is; nothing changes

    public int card(int place) {
        if (place < 0 || place >= CARDS) {
            return NO_SUCH;
        }
        return table.pack[place];
    }

    public int placeOf(int card) {
        for (int place = 0; place < CARDS; place++) {
            if (table.pack[place] == card) {
                return place;
            }
        }
        return NO_SUCH;
    }

    public int holder(int board, int card) {
        Board asked = table.boardAt(board);
        if (asked == null || card < 0 || card >= CARDS) {
            return NO_SUCH;
        }
        if (!asked.hasCards) {
            return NONE;
        }
        return asked.holders[card];
    }

    public int hand(int board, int hand, int what) {
        Board asked = table.boardAt(board);
        if (asked == null || hand < 0 || hand >= HANDS) {
            return NO_SUCH;
        }
        if (what < 0 || what > 6) {
            return BAD_VALUE;
        }
        if (!asked.hasCards) {
            return NONE;
        }
        switch (what) {
            case 4:
                return asked.pointsOf(hand);
            case 5:
                return asked.isBalanced(hand) ? 1 : 0;
            case 6:
                return asked.highestSpade(hand);
            default:
                return asked.suitLength(hand, what);
        }
    }

    public int board(int board, int what) {
        Board asked = table.boardAt(board);
        if (asked == null) {
            return NO_SUCH;
        }
        switch (what) {
            case 0:
                return asked.hasCards ? 1 : 0;
            case 1:
                return asked.closed ? 1 : 0;
            case 2:
                return asked.replays;
            case 3:
                return asked.hasCards ? asked.strongestHand() : NONE;
            case 4:
                return asked.hasCards ? asked.balancedHands() : 0;
            default:
                return BAD_VALUE;
        }
    }

    public int count(int what) {
        switch (what) {
            case 0:
                return table.settings[KEEPS];
            case 1:
                return table.settings[RIFFLES];
            case 2:
                return table.x;
            case 3:
                return table.bentCards();
            case 4:
                return table.certified ? 1 : 0;
            case 5:
                return table.latestKept;
            case 6:
                return table.shuffles;
            case 7:
                return table.certifiedShuffles;
            case 8:
                return table.deals;
            case 9:
                return table.replays;
            case 10:
                return table.sealedBoards();
            case 11:
                return table.risingPairs();
            case 12:
                return pad.length;
            case 13:
                return undoable;
            default:
                return BAD_VALUE;
        }
    }

    public int alike(int one, int other) {
        Board first = table.boardAt(one);
        Board second = table.boardAt(other);
        if (first == null || second == null) {
            return NO_SUCH;
        }
        if (!first.hasCards || !second.hasCards) {
            return NONE;
        }
        return first.hasHandsOf(second) ? 1 : 0;
    }

    // ---- what if; nothing changes

    public int ifRiffled(int riffles, int way) {
        if (riffles < 1 || riffles > MOST_TRIED_RIFFLES) {
            return BAD_VALUE;
        }
        if (way != Trial.THROUGH_BEFORE && way != Trial.THROUGH_BEHIND) {
            return BAD_VALUE;
        }
        trial.begin(table);
        trial.riffleTimes(riffles);
        return trial.keptPairs(way);
    }

    public int needed() {
        trial.begin(table);
        for (int riffles = 1; riffles <= MOST_TRIED_RIFFLES; riffles++) {
            trial.riffleOnce();
            if (trial.keptPairs(Trial.THROUGH_BEFORE) <= table.settings[KEEPS]) {
                return riffles;
            }
        }
        return NONE;
    }

    public int worstBend() {
        int worst = NONE;
        int fewest = CARDS;
        for (int card = 0; card < CARDS; card++) {
            if (table.bent[card]) {
                int kept = keptWithoutBend(card);
                if (kept < fewest) {
                    fewest = kept;
                    worst = card;
                }
            }
        }
        return worst;
    }

    // ---- texts

    public int put(long characters) {
        return pad.append(characters);
    }

    public int wipe() {
        int length = pad.length;
        pad.length = 0;
        return length;
    }

    public int fault() {
        return pad.firstFault();
    }

    // ---- undo, saving

    public int undo() {
        if (undoable < 1 || undoable > HISTORY) {
            return NOT_POSSIBLE;
        }
        undoable--;
        table.copyFrom(history[undoable]);
        return undoable;
    }

    public int save(int slot) {
        if (slot < 0 || slot >= SLOTS) {
            return BAD_VALUE;
        }
        if (slots[slot] == null) {
            slots[slot] = new Table();
        }
        slots[slot].copyFrom(table);
        return table.boardsWithCards();
    }

    public int restore(int slot) {
        if (slot < 0 || slot >= SLOTS) {
            return BAD_VALUE;
        }
        Table saved = slots[slot];
        if (saved == null) {
            return NOT_POSSIBLE;
        }
        recordState();
        table.copyFrom(saved);
        return table.boardsWithCards();
    }

    private void recordState() {
        if (undoable >= HISTORY) {
            dropOldestState();
        }
        history[undoable].copyFrom(table);
        undoable++;
    }

    /** The oldest one goes to the end, where it is written over, so that no state is made anew. */
    private void dropOldestState() {
        Table oldest = history[0];
        for (int state = 1; state < HISTORY; state++) {
            history[state - 1] = history[state];
        }
        history[HISTORY - 1] = oldest;
        undoable = HISTORY - 1;
    }

    private int keptWithoutBend(int card) {
        trial.begin(table);
        trial.flatten(card);
        trial.riffleTimes(table.settings[RIFFLES]);
        return trial.keptPairs(Trial.THROUGH_BEFORE);
    }

    /** All that undo takes back and that a slot keeps. */
    private static final class Table {
        final int[] settings;
        final int[] pack;
        final boolean[] bent;
        final Board[] boards;
        int x;
        boolean certified;
        int latestKept;
        int shuffles;
        int certifiedShuffles;
        int deals;
        int replays;

        Table() {
            settings = new int[SETTINGS];
            for (int setting = 0; setting < SETTINGS; setting++) {
                settings[setting] = FIRST_VALUE[setting];
            }
            pack = new int[CARDS];
            for (int place = 0; place < CARDS; place++) {
                pack[place] = place;
            }
            bent = new boolean[CARDS];
            boards = new Board[BOARDS];
            for (int board = 0; board < BOARDS; board++) {
                boards[board] = new Board();
            }
            x = 1;
            latestKept = NONE;
        }

        void copyFrom(Table other) {
            System.arraycopy(other.settings, 0, settings, 0, SETTINGS);
            System.arraycopy(other.pack, 0, pack, 0, CARDS);
            System.arraycopy(other.bent, 0, bent, 0, CARDS);
            for (int board = 0; board < BOARDS; board++) {
                boards[board].copyFrom(other.boards[board]);
            }
            x = other.x;
            certified = other.certified;
            latestKept = other.latestKept;
            shuffles = other.shuffles;
            certifiedShuffles = other.certifiedShuffles;
            deals = other.deals;
            replays = other.replays;
        }

        /** Null if there is no such board. */
        Board boardAt(int board) {
            if (board < 0 || board >= BOARDS) {
                return null;
            }
            return boards[board];
        }

        void bendOrFlatten(int card) {
            if (card >= 0 && card < CARDS) {
                bent[card] = !bent[card];
            }
        }

        void countShuffle(int kept) {
            latestKept = kept;
            shuffles++;
            certified = kept <= settings[KEEPS];
            if (certified) {
                certifiedShuffles++;
            }
        }

        /** Tells how many cards lay at another place. */
        int layInOrder() {
            int moved = 0;
            for (int place = 0; place < CARDS; place++) {
                if (pack[place] != place) {
                    moved++;
                }
                pack[place] = place;
            }
            return moved;
        }

        int bentCards() {
            int found = 0;
            for (int card = 0; card < CARDS; card++) {
                if (bent[card]) {
                    found++;
                }
            }
            return found;
        }

        int risingPairs() {
            int found = 0;
            for (int place = 1; place < CARDS; place++) {
                if (pack[place] == pack[place - 1] + 1) {
                    found++;
                }
            }
            return found;
        }

        int boardsWithCards() {
            int found = 0;
            for (int board = 0; board < BOARDS; board++) {
                if (boards[board].hasCards) {
                    found++;
                }
            }
            return found;
        }

        int sealedBoards() {
            int found = 0;
            for (int board = 0; board < BOARDS; board++) {
                if (boards[board].closed) {
                    found++;
                }
            }
            return found;
        }
    }

    private static final class Board {
        /** The hand of each card; it tells nothing before the board has cards. */
        final int[] holders;
        boolean hasCards;
        boolean closed;
        int replays;

        Board() {
            holders = new int[CARDS];
        }

        void copyFrom(Board other) {
            System.arraycopy(other.holders, 0, holders, 0, CARDS);
            hasCards = other.hasCards;
            closed = other.closed;
            replays = other.replays;
        }

        void giveOut(int[] pack) {
            for (int place = 0; place < CARDS; place++) {
                int card = pack[place];
                if (card >= 0 && card < CARDS) {
                    holders[card] = place % HANDS;
                }
            }
            hasCards = true;
            replays = 0;
        }

        boolean hasHandsOf(Board other) {
            for (int card = 0; card < CARDS; card++) {
                if (holders[card] != other.holders[card]) {
                    return false;
                }
            }
            return true;
        }

        int suitLength(int hand, int suit) {
            int found = 0;
            for (int card = 0; card < CARDS; card++) {
                if (holders[card] == hand && card / RANKS == suit) {
                    found++;
                }
            }
            return found;
        }

        int pointsOf(int hand) {
            int points = 0;
            for (int card = 0; card < CARDS; card++) {
                if (holders[card] == hand) {
                    points += pointsOfRank(card % RANKS);
                }
            }
            return points;
        }

        /** Jack 9 to ace 12 make 1 to 4 points. */
        static int pointsOfRank(int rank) {
            return Math.max(0, rank - 8);
        }

        boolean isBalanced(int hand) {
            int doubletons = 0;
            for (int suit = 0; suit < SUITS; suit++) {
                int length = suitLength(hand, suit);
                if (length < 2) {
                    return false;
                }
                if (length == 2) {
                    doubletons++;
                }
            }
            return doubletons <= 1;
        }

        int highestSpade(int hand) {
            for (int rank = RANKS - 1; rank >= 0; rank--) {
                if (holders[SPADES * RANKS + rank] == hand) {
                    return rank;
                }
            }
            return NONE;
        }

        int strongestHand() {
            int strongest = 0;
            int most = pointsOf(0);
            for (int hand = 1; hand < HANDS; hand++) {
                int points = pointsOf(hand);
                if (points > most) {
                    most = points;
                    strongest = hand;
                }
            }
            return strongest;
        }

        int balancedHands() {
            int set = 0;
            for (int hand = 0; hand < HANDS; hand++) {
                if (isBalanced(hand)) {
                    set |= 1 << hand;
                }
            }
            return set;
        }
    }

    /** Riffles a copy of the pack, so that what-ifs change nothing. */
    private static final class Trial {
        static final int THROUGH_BEFORE = 0;
        static final int THROUGH_BEHIND = 1;

        private static final int SMALLEST_UPPER_PACKET = 24;
        private static final int UPPER_PACKET_SIZES = 5;

        final int[] before;
        final int[] pack;
        final int[] packets;
        final int[] places;
        final boolean[] bent;
        int x;

        Trial() {
            before = new int[CARDS];
            pack = new int[CARDS];
            packets = new int[CARDS];
            places = new int[CARDS];
            bent = new boolean[CARDS];
        }

        void begin(Table table) {
            System.arraycopy(table.pack, 0, before, 0, CARDS);
            System.arraycopy(table.pack, 0, pack, 0, CARDS);
            System.arraycopy(table.bent, 0, bent, 0, CARDS);
            x = table.x;
        }

        void flatten(int card) {
            if (card >= 0 && card < CARDS) {
                bent[card] = false;
            }
        }

        void riffleTimes(int riffles) {
            for (int riffle = 0; riffle < riffles; riffle++) {
                riffleOnce();
            }
        }

        void riffleOnce() {
            System.arraycopy(pack, 0, packets, 0, CARDS);
            int split = SMALLEST_UPPER_PACKET + drawBelow(UPPER_PACKET_SIZES);
            int upper = 0;
            int lower = split;
            boolean fromUpper = false;
            boolean sticks = false;
            for (int place = 0; place < CARDS && (upper < split || lower < CARDS); place++) {
                if (upper >= split || lower >= CARDS) {
                    fromUpper = upper < split;
                } else if (!sticks) {
                    fromUpper = drawBelow(split - upper + CARDS - lower) < split - upper;
                }
                int card = packets[fromUpper ? upper : lower];
                pack[place] = card;
                sticks = isBent(card);
                if (fromUpper) {
                    upper++;
                } else {
                    lower++;
                }
            }
        }

        int drawBelow(int bound) {
            x = (int) ((x * 1103515245L + 12345L) % 2147483648L);
            if (bound < 1) {
                return 0;
            }
            return x / 65536 % bound;
        }

        boolean isBent(int card) {
            return card >= 0 && card < CARDS && bent[card];
        }

        int keptPairs(int way) {
            if (way == THROUGH_BEFORE) {
                return pairsFound(before, pack);
            }
            return pairsFound(pack, before);
        }

        int pairsFound(int[] walked, int[] searched) {
            notePlaces(searched);
            int found = 0;
            for (int place = 1; place < CARDS; place++) {
                if (notedPlace(walked[place]) == notedPlace(walked[place - 1]) + 1) {
                    found++;
                }
            }
            return found;
        }

        void notePlaces(int[] searched) {
            for (int place = 0; place < CARDS; place++) {
                int card = searched[place];
                if (card >= 0 && card < CARDS) {
                    places[card] = place;
                }
            }
        }

        int notedPlace(int card) {
            if (card < 0 || card >= CARDS) {
                return NO_SUCH;
            }
            return places[card];
        }
    }

    private static final class Pad {
        /** A suit, a rank and the comma behind them. */
        static final int CARD_STEP = 3;

        private static final String SUIT_SIGNS = "cdhs";
        private static final String RANK_SIGNS = "23456789tjqka";

        final char[] signs;
        int length;

        Pad() {
            signs = new char[PAD_LENGTH];
        }

        /** Returns what the document promises for put. */
        int append(long characters) {
            int added = lengthOf(characters);
            if (added == 0) {
                return BAD_VALUE;
            }
            if (length + added > PAD_LENGTH) {
                return TOO_MANY;
            }
            for (int behind = added - 1; behind >= 0; behind--) {
                signs[length] = (char) ((characters >>> (8 * behind)) & 255L);
                length++;
            }
            return length;
        }

        /** 0 also stands for characters that are not allowed: both are refused alike. */
        static int lengthOf(long characters) {
            int found = 0;
            for (int shift = 0; shift < 64; shift += 8) {
                long rest = characters >>> shift;
                if (rest == 0L) {
                    return found;
                }
                long code = rest & 255L;
                if (code < 33L || code > 126L) {
                    return 0;
                }
                found++;
            }
            return found;
        }

        int firstFault() {
            for (int index = 0; index < length; index++) {
                if (!canStandAt(index)) {
                    return index;
                }
            }
            return length % CARD_STEP == 2 ? NONE : length;
        }

        boolean canStandAt(int index) {
            char sign = signAt(index);
            switch (index % CARD_STEP) {
                case 0:
                    return SUIT_SIGNS.indexOf(sign) >= 0;
                case 1:
                    return RANK_SIGNS.indexOf(sign) >= 0;
                default:
                    return sign == ',';
            }
        }

        /** The card whose suit stands at the index, in a text without a fault. */
        int cardAt(int index) {
            return RANKS * SUIT_SIGNS.indexOf(signAt(index)) + RANK_SIGNS.indexOf(signAt(index + 1));
        }

        char signAt(int index) {
            return index >= 0 && index < length && index < PAD_LENGTH ? signs[index] : ' ';
        }
    }
}
