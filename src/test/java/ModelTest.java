import java.util.ArrayList;
import java.util.List;
import java.util.Random;

/** Drawn runs of calls, ordinary, at the edges and far outside, each compared with the model. */
public final class ModelTest {
    private static final int RUNS = 3000;
    private static final int CALLS = 200;
    private static final int[] FAR = {Integer.MIN_VALUE, -7, -1, 52, 53, 61, 1000, Integer.MAX_VALUE};
    private static final String SIGNS = "cdhs23456789tjqka,";

    private final Random random;
    private final SealedDeals deals = new SealedDeals();
    private final Model model = new Model();
    private final List<String> told = new ArrayList<>();
    private boolean wrong = false;

    private ModelTest(int run) {
        random = new Random(run);
    }

    public static void main(String[] args) {
        for (int run = 0; run < RUNS; run++) {
            new ModelTest(run).compare(run);
        }
        Due.finish();
    }

    private void compare(int run) {
        if (run % 3 == 0) {
            same("set(0, 51)", model.set(0, 51), deals.set(0, 51));
        }
        for (int call = 0; call < CALLS && !wrong; call++) {
            oneCall();
        }
        compareAll();
        if (wrong) {
            System.out.println("run " + run + ": " + String.join("; ", told));
        }
    }

    private void same(String call, int want, int got) {
        told.add(call + " = " + got);
        wrong |= want != got;
        Due.is(call, want, got);
    }

    /** One number past either end is drawn too, now and then one far outside. */
    private int number(int below) {
        if (random.nextInt(40) == 0) {
            return FAR[random.nextInt(FAR.length)];
        }
        return random.nextInt(20) == 0 ? random.nextInt(below + 2) - 1 : random.nextInt(below);
    }

    private void oneCall() {
        switch (random.nextInt(5)) {
            case 0 -> ask();
            case 1 -> write();
            case 2 -> keep();
            default -> change();
        }
    }

    private void change() {
        int a;
        int b;
        switch (random.nextInt(13)) {
            case 0 -> {
                a = number(2);
                b = random.nextBoolean() ? number(10) : number(52);
                same("set(" + a + ", " + b + ")", model.set(a, b), deals.set(a, b));
            }
            case 1 -> {
                a = random.nextInt(8) == 0 ? number(3) : random.nextInt() & Integer.MAX_VALUE;
                same("seed(" + a + ")", model.seed(a), deals.seed(a));
            }
            case 2, 3 -> {
                a = number(52);
                same("bend(" + a + ")", model.bend(a), deals.bend(a));
            }
            case 4, 5, 6 -> same("shuffle()", model.shuffle(), deals.shuffle());
            case 7 -> {
                a = number(52);
                same("cut(" + a + ")", model.cut(a), deals.cut(a));
            }
            case 8 -> {
                if (random.nextInt(4) == 0) {
                    same("sort()", model.sort(), deals.sort());
                }
            }
            case 9, 10 -> {
                a = number(4);
                same("deal(" + a + ")", model.deal(a), deals.deal(a));
            }
            case 11 -> {
                a = number(4);
                same("seal(" + a + ")", model.seal(a), deals.seal(a));
            }
            default -> {
                a = number(4);
                same("open(" + a + ")", model.open(a), deals.open(a));
            }
        }
    }

    private void ask() {
        int a;
        int b;
        int c;
        switch (random.nextInt(10)) {
            case 0 -> {
                a = number(52);
                same("card(" + a + ")", model.card(a), deals.card(a));
            }
            case 1 -> {
                a = number(52);
                same("placeOf(" + a + ")", model.placeOf(a), deals.placeOf(a));
            }
            case 2 -> {
                a = number(4);
                b = number(52);
                same("holder(" + a + ", " + b + ")", model.holder(a, b), deals.holder(a, b));
            }
            case 3 -> {
                a = number(4);
                b = number(4);
                c = number(7);
                same("hand(" + a + ", " + b + ", " + c + ")", model.hand(a, b, c), deals.hand(a, b, c));
            }
            case 4 -> {
                a = number(4);
                b = number(5);
                same("board(" + a + ", " + b + ")", model.board(a, b), deals.board(a, b));
            }
            case 5 -> {
                a = number(14);
                same("count(" + a + ")", model.count(a), deals.count(a));
            }
            case 6 -> {
                a = number(4);
                b = number(4);
                same("alike(" + a + ", " + b + ")", model.alike(a, b), deals.alike(a, b));
            }
            case 7 -> {
                a = number(21);
                b = number(2);
                same("ifRiffled(" + a + ", " + b + ")", model.ifRiffled(a, b), deals.ifRiffled(a, b));
            }
            case 8 -> same("needed()", model.needed(), deals.needed());
            default -> same("worstBend()", model.worstBend(), deals.worstBend());
        }
    }

    private void write() {
        switch (random.nextInt(8)) {
            case 0 -> same("wipe()", model.wipe(), deals.wipe());
            case 1, 2 -> same("fault()", model.fault(), deals.fault());
            case 3, 4 -> same("read()", model.read(), deals.read());
            case 5 -> put(random.nextLong() >>> random.nextInt(64));
            default -> put(fittingCharacters());
        }
    }

    private void put(long characters) {
        same("put(" + characters + "L)", model.put(characters), deals.put(characters));
    }

    private long fittingCharacters() {
        long characters = 0;
        int length = 1 + random.nextInt(8);
        for (int index = 0; index < length; index++) {
            characters = characters << 8 | signFor(model.count(12) + index);
        }
        return characters;
    }

    private char signFor(int index) {
        if (random.nextInt(30) == 0) {
            return SIGNS.charAt(random.nextInt(SIGNS.length()));
        }
        return switch (index % 3) {
            case 0 -> SIGNS.charAt(random.nextInt(4));
            case 1 -> SIGNS.charAt(4 + random.nextInt(13));
            default -> ',';
        };
    }

    private void keep() {
        int a = number(2);
        switch (random.nextInt(6)) {
            case 0, 1, 2 -> same("undo()", model.undo(), deals.undo());
            case 3, 4 -> same("save(" + a + ")", model.save(a), deals.save(a));
            default -> same("restore(" + a + ")", model.restore(a), deals.restore(a));
        }
    }

    private void compareAll() {
        for (int what = 0; what < 14; what++) {
            same("count(" + what + ")", model.count(what), deals.count(what));
        }
        for (int card = 0; card < 52; card++) {
            same("card(" + card + ")", model.card(card), deals.card(card));
            for (int board = 0; board < 4; board++) {
                same("holder(" + board + ", " + card + ")", model.holder(board, card), deals.holder(board, card));
            }
        }
    }
}
