import java.util.function.Consumer;

/** Counts the answers that are not the ones that are due, and ends the program by them. */
final class Due {
    private static int asked = 0;
    private static int wrong = 0;
    private static String about = "";

    private Due() {
    }

    /** One sentence of the document, held against the calls of a new object; a test that asks nothing is wrong, too. */
    static void sentence(String promiseAndSentence, Consumer<SealedDeals> calls) {
        about = promiseAndSentence + ": ";
        int before = asked;
        calls.accept(new SealedDeals());
        holds("it asks for something", asked > before);
        about = "";
    }

    static void is(String call, long want, long got) {
        asked++;
        if (got != want) {
            wrong++;
            System.out.println(about + call + " answered " + got + ", due is " + want);
        }
    }

    static void holds(String what, boolean holding) {
        is(what, 1, holding ? 1 : 0);
    }

    static void finish() {
        System.out.println(asked + " answers, " + wrong + " not as due");
        if (wrong > 0 || asked == 0) {
            System.exit(1);
        }
    }
}
