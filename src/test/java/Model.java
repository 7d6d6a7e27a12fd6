import java.util.ArrayDeque;
import java.util.ArrayList;
import java.util.Arrays;
import java.util.Deque;
import java.util.HashMap;
import java.util.HashSet;
import java.util.List;
import java.util.Map;
import java.util.Set;
import java.util.TreeSet;

/** The document told once more, with lists and sets and without regard to cost, to compare with. */
final class Model {
    static final int NO_SUCH = -1, BAD_VALUE = -2, BAD_TEXT = -3, TOO_MANY = -4, NOT_POSSIBLE = -5, NONE = -6;

    private static final class State {
        int keeps = 8;
        int riffles = 3;
        long x = 1;
        List<Integer> pack = new ArrayList<>();
        Set<Integer> bent = new TreeSet<>();
        boolean certified;
        int latest = NONE;
        int shuffles;
        int certifiedShuffles;
        int deals;
        int replays;
        Map<Integer, List<Set<Integer>>> hands = new HashMap<>();
        Set<Integer> closed = new HashSet<>();
        int[] replaysOf = new int[4];

        State copy() {
            State other = new State();
            other.keeps = keeps;
            other.riffles = riffles;
            other.x = x;
            other.pack = new ArrayList<>(pack);
            other.bent = new TreeSet<>(bent);
            other.certified = certified;
            other.latest = latest;
            other.shuffles = shuffles;
            other.certifiedShuffles = certifiedShuffles;
            other.deals = deals;
            other.replays = replays;
            other.hands = new HashMap<>(hands);
            other.closed = new HashSet<>(closed);
            other.replaysOf = replaysOf.clone();
            return other;
        }
    }

    private static final class Outcome {
        List<Integer> pack;
        long x;
        int kept;
    }

    private State now = new State();
    private String pad = "";
    private final Deque<State> history = new ArrayDeque<>();
    private final State[] slots = new State[2];

    Model() {
        for (int card = 0; card < 52; card++) {
            now.pack.add(card);
        }
    }

    private void change() {
        history.addLast(now.copy());
        if (history.size() > 4) {
            history.removeFirst();
        }
    }

    int set(int setting, int value) {
        if (setting == 0 && value >= 0 && value <= 51) {
            change();
            int old = now.keeps;
            now.keeps = value;
            return old;
        }
        if (setting == 1 && value >= 1 && value <= 9) {
            change();
            int old = now.riffles;
            now.riffles = value;
            return old;
        }
        return BAD_VALUE;
    }

    int seed(int number) {
        if (number < 0) {
            return BAD_VALUE;
        }
        change();
        int old = (int) now.x;
        now.x = number;
        return old;
    }

    private void turn(int card) {
        if (!now.bent.remove(card)) {
            now.bent.add(card);
        }
    }

    int bend(int card) {
        if (!isCard(card)) {
            return NO_SUCH;
        }
        change();
        turn(card);
        return now.bent.size();
    }

    int read() {
        if (fault() != NONE) {
            return BAD_TEXT;
        }
        change();
        for (String card : pad.split(",")) {
            turn(13 * "cdhs".indexOf(card.charAt(0)) + "23456789tjqka".indexOf(card.charAt(1)));
        }
        pad = "";
        return now.bent.size();
    }

    private static long next(long x) {
        return (x * 1103515245L + 12345L) % 2147483648L;
    }

    private static Outcome riffle(Outcome from, Set<Integer> bent) {
        long x = next(from.x);
        int size = 24 + (int) (x / 65536 % 5);
        Deque<Integer> upper = new ArrayDeque<>(from.pack.subList(0, size));
        Deque<Integer> lower = new ArrayDeque<>(from.pack.subList(size, 52));
        List<Integer> laid = new ArrayList<>();
        while (!upper.isEmpty() && !lower.isEmpty()) {
            x = next(x);
            Deque<Integer> packet = x / 65536 % (upper.size() + lower.size()) < upper.size() ? upper : lower;
            int card;
            do {
                card = packet.removeFirst();
                laid.add(card);
            } while (bent.contains(card) && !packet.isEmpty());
        }
        laid.addAll(upper);
        laid.addAll(lower);
        Outcome to = new Outcome();
        to.pack = laid;
        to.x = x;
        return to;
    }

    private Outcome shuffled(int riffles, Set<Integer> bent) {
        Outcome outcome = new Outcome();
        outcome.pack = now.pack;
        outcome.x = now.x;
        for (int riffle = 0; riffle < riffles; riffle++) {
            outcome = riffle(outcome, bent);
        }
        Set<List<Integer>> before = pairs(now.pack);
        before.retainAll(pairs(outcome.pack));
        outcome.kept = before.size();
        return outcome;
    }

    private static Set<List<Integer>> pairs(List<Integer> pack) {
        Set<List<Integer>> pairs = new HashSet<>();
        for (int place = 0; place + 1 < pack.size(); place++) {
            pairs.add(List.of(pack.get(place), pack.get(place + 1)));
        }
        return pairs;
    }

    int shuffle() {
        change();
        Outcome outcome = shuffled(now.riffles, now.bent);
        now.pack = outcome.pack;
        now.x = outcome.x;
        now.latest = outcome.kept;
        now.shuffles++;
        now.certified = outcome.kept <= now.keeps;
        now.certifiedShuffles += now.certified ? 1 : 0;
        return outcome.kept;
    }

    int cut(int cards) {
        if (cards < 1 || cards > 51) {
            return BAD_VALUE;
        }
        change();
        List<Integer> pack = new ArrayList<>(now.pack.subList(cards, 52));
        pack.addAll(now.pack.subList(0, cards));
        now.pack = pack;
        return pack.get(0);
    }

    int sort() {
        change();
        List<Integer> sorted = new ArrayList<>(now.pack);
        sorted.sort(null);
        int moved = 0;
        for (int place = 0; place < 52; place++) {
            moved += sorted.get(place).equals(now.pack.get(place)) ? 0 : 1;
        }
        now.pack = sorted;
        now.certified = false;
        return moved;
    }

    private static boolean isBoard(int board) {
        return board >= 0 && board <= 3;
    }

    private static boolean isCard(int card) {
        return card >= 0 && card <= 51;
    }

    int deal(int board) {
        if (!isBoard(board)) {
            return NO_SUCH;
        }
        if (now.closed.contains(board) || !now.certified) {
            return NOT_POSSIBLE;
        }
        change();
        List<Set<Integer>> hands = new ArrayList<>();
        for (int hand = 0; hand < 4; hand++) {
            Set<Integer> cards = new TreeSet<>();
            for (int round = 0; round < 13; round++) {
                cards.add(now.pack.get(4 * round + hand));
            }
            hands.add(cards);
        }
        now.hands.put(board, hands);
        now.replaysOf[board] = 0;
        now.certified = false;
        now.deals++;
        return points(hands.get(0));
    }

    private static int points(Set<Integer> cards) {
        int points = 0;
        for (int card : cards) {
            switch (card % 13) {
                case 12 -> points += 4;
                case 11 -> points += 3;
                case 10 -> points += 2;
                case 9 -> points += 1;
                default -> { }
            }
        }
        return points;
    }

    int seal(int board) {
        if (!isBoard(board)) {
            return NO_SUCH;
        }
        if (!now.hands.containsKey(board) || now.closed.contains(board)) {
            return NOT_POSSIBLE;
        }
        change();
        now.closed.add(board);
        return now.closed.size();
    }

    int open(int board) {
        if (!isBoard(board)) {
            return NO_SUCH;
        }
        if (!now.closed.contains(board)) {
            return NOT_POSSIBLE;
        }
        change();
        now.closed.remove(board);
        now.replays++;
        return ++now.replaysOf[board];
    }

    int card(int place) {
        return place < 0 || place > 51 ? NO_SUCH : now.pack.get(place);
    }

    int placeOf(int card) {
        return isCard(card) ? now.pack.indexOf(card) : NO_SUCH;
    }

    int holder(int board, int card) {
        if (!isBoard(board) || !isCard(card)) {
            return NO_SUCH;
        }
        List<Set<Integer>> hands = now.hands.get(board);
        for (int hand = 0; hands != null && hand < 4; hand++) {
            if (hands.get(hand).contains(card)) {
                return hand;
            }
        }
        return NONE;
    }

    private static int[] lengths(Set<Integer> cards) {
        int[] lengths = new int[4];
        for (int card : cards) {
            lengths[card / 13]++;
        }
        return lengths;
    }

    private static boolean balanced(Set<Integer> cards) {
        int[] lengths = lengths(cards);
        Arrays.sort(lengths);
        return lengths[0] >= 2 && lengths[1] > 2;
    }

    int hand(int board, int hand, int what) {
        if (!isBoard(board) || hand < 0 || hand > 3) {
            return NO_SUCH;
        }
        if (what < 0 || what > 6) {
            return BAD_VALUE;
        }
        if (!now.hands.containsKey(board)) {
            return NONE;
        }
        Set<Integer> cards = now.hands.get(board).get(hand);
        return switch (what) {
            case 4 -> points(cards);
            case 5 -> balanced(cards) ? 1 : 0;
            case 6 -> cards.stream().filter(c -> c >= 39).mapToInt(c -> c - 39).max().orElse(NONE);
            default -> lengths(cards)[what];
        };
    }

    int board(int board, int what) {
        if (!isBoard(board)) {
            return NO_SUCH;
        }
        List<Set<Integer>> hands = now.hands.get(board);
        switch (what) {
            case 0:
                return hands == null ? 0 : 1;
            case 1:
                return now.closed.contains(board) ? 1 : 0;
            case 2:
                return now.replaysOf[board];
            case 3:
                int best = NONE;
                for (int hand = 3; hands != null && hand >= 0; hand--) {
                    if (best == NONE || points(hands.get(hand)) >= points(hands.get(best))) {
                        best = hand;
                    }
                }
                return best;
            case 4:
                int set = 0;
                for (int hand = 0; hands != null && hand < 4; hand++) {
                    set += balanced(hands.get(hand)) ? 1 << hand : 0;
                }
                return set;
            default:
                return BAD_VALUE;
        }
    }

    int count(int what) {
        return switch (what) {
            case 0 -> now.keeps;
            case 1 -> now.riffles;
            case 2 -> (int) now.x;
            case 3 -> now.bent.size();
            case 4 -> now.certified ? 1 : 0;
            case 5 -> now.latest;
            case 6 -> now.shuffles;
            case 7 -> now.certifiedShuffles;
            case 8 -> now.deals;
            case 9 -> now.replays;
            case 10 -> now.closed.size();
            case 11 -> (int) pairs(now.pack).stream().filter(p -> p.get(1) == p.get(0) + 1).count();
            case 12 -> pad.length();
            case 13 -> history.size();
            default -> BAD_VALUE;
        };
    }

    int alike(int one, int other) {
        if (!isBoard(one) || !isBoard(other)) {
            return NO_SUCH;
        }
        if (!now.hands.containsKey(one) || !now.hands.containsKey(other)) {
            return NONE;
        }
        return now.hands.get(one).equals(now.hands.get(other)) ? 1 : 0;
    }

    int ifRiffled(int riffles, int way) {
        if (riffles < 1 || riffles > 20 || way < 0 || way > 1) {
            return BAD_VALUE;
        }
        return shuffled(riffles, now.bent).kept;
    }

    int needed() {
        for (int riffles = 1; riffles <= 20; riffles++) {
            if (shuffled(riffles, now.bent).kept <= now.keeps) {
                return riffles;
            }
        }
        return NONE;
    }

    int worstBend() {
        int worst = NONE;
        int fewest = Integer.MAX_VALUE;
        for (int card : now.bent) {
            Set<Integer> others = new TreeSet<>(now.bent);
            others.remove(card);
            int kept = shuffled(now.riffles, others).kept;
            if (kept < fewest) {
                fewest = kept;
                worst = card;
            }
        }
        return worst;
    }

    int put(long characters) {
        String added = "";
        long rest = characters;
        while (rest != 0) {
            int code = (int) (rest & 255);
            if (code < 33 || code > 126) {
                return BAD_VALUE;
            }
            added = (char) code + added;
            rest >>>= 8;
        }
        if (added.isEmpty()) {
            return BAD_VALUE;
        }
        if (pad.length() + added.length() > 60) {
            return TOO_MANY;
        }
        pad += added;
        return pad.length();
    }

    int wipe() {
        int length = pad.length();
        pad = "";
        return length;
    }

    int fault() {
        String text = "[cdhs][2-9tjqka](,[cdhs][2-9tjqka])*";
        String[] ends = {"c2", "2", ""};
        for (int end = 1; end <= pad.length(); end++) {
            if (!(pad.substring(0, end) + ends[end % 3]).matches(text)) {
                return end - 1;
            }
        }
        return pad.matches(text) ? NONE : pad.length();
    }

    int undo() {
        if (history.isEmpty()) {
            return NOT_POSSIBLE;
        }
        now = history.removeLast();
        return history.size();
    }

    int save(int slot) {
        if (slot < 0 || slot > 1) {
            return BAD_VALUE;
        }
        slots[slot] = now.copy();
        return now.hands.size();
    }

    int restore(int slot) {
        if (slot < 0 || slot > 1) {
            return BAD_VALUE;
        }
        if (slots[slot] == null) {
            return NOT_POSSIBLE;
        }
        change();
        now = slots[slot].copy();
        return now.hands.size();
    }
}
