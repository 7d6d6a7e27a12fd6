/** The boundary cases of promises 22 to 24, a test for each sentence. */
public final class EdgesOfTextsTest {
    private static final int BAD_VALUE = -2, BAD_TEXT = -3, TOO_MANY = -4, NONE = -6;
    private static final String EIGHT = "c2,d3,h4";

    public static void main(String[] args) {
        put();
        putCodes();
        putGaps();
        putTooMany();
        wipe();
        fault();
        faultOfLongTexts();
        Due.finish();
    }

    private static void put() {
        String p = "Promise 22, put: ";
        Due.sentence(p + "1 character", x -> Due.is("put", 1, x.put('c')));
        Due.sentence(p + "8 characters", x -> {
            Due.is("put", 8, x.put(Given.packed(EIGHT)));
            Due.is("fault()", NONE, x.fault());
        });
        Due.sentence(p + "no character", x -> Due.is("put(0)", BAD_VALUE, x.put(0)));
        Due.sentence(p + "its lowest 8 bits are the last character", x -> {
            x.put((long) 'c' << 8 | '2');
            Due.is("fault()", NONE, x.fault());
            x.wipe();
            x.put((long) '2' << 8 | 'c');
            Due.is("fault()", 0, x.fault());
        });
        for (int length = 1; length <= 8; length++) {
            String part = EIGHT.substring(0, length);
            Due.sentence(p + "appends all of " + length + " characters, in their order", x -> {
                Due.is("put", part.length(), x.put(Given.packed(part)));
                Due.is("put", part.length() + 1, x.put('!'));
                Due.is("the fault is behind them: fault()", part.length(), x.fault());
            });
        }
        Due.sentence(p + "behind those that are there", x -> {
            x.put('h');
            x.put('a');
            Due.is("fault()", NONE, x.fault());
            Due.is("put", 3, x.put(','));
        });
    }

    private static void putCodes() {
        String p = "Promise 22, put, a code is 33 to 126: ";
        for (int length = 1; length <= 8; length++) {
            for (int place = 0; place < length; place++) {
                String where = length + " characters, the one at " + place + ": ";
                long others = Given.packed(EIGHT.substring(0, length)) & ~(255L << 8 * place);
                int shift = 8 * place;
                int whole = length;
                Due.sentence(p + where + "the least", x -> Due.is("33", whole, x.put(others | 33L << shift)));
                Due.sentence(p + where + "the greatest", x -> Due.is("126", whole, x.put(others | 126L << shift)));
                Due.sentence(p + where + "just below", x -> Due.is("32", BAD_VALUE, x.put(others | 32L << shift)));
                Due.sentence(p + where + "just above", x -> Due.is("127", BAD_VALUE, x.put(others | 127L << shift)));
                Due.sentence(p + where + "the greatest bit of 8", x -> {
                    Due.is("128", BAD_VALUE, x.put(others | 128L << shift));
                    Due.is("128 and the code", BAD_VALUE, x.put(others | (128L | 'c') << shift));
                    Due.is("255", BAD_VALUE, x.put(others | 255L << shift));
                });
                Due.sentence(p + where + "just above 0", x -> Due.is("1", BAD_VALUE, x.put(others | 1L << shift)));
            }
        }
        Due.sentence(p + "the ends of a long", x -> {
            Due.is("put(MIN)", BAD_VALUE, x.put(Long.MIN_VALUE));
            Due.is("put(MAX)", BAD_VALUE, x.put(Long.MAX_VALUE));
            Due.is("put(-1)", BAD_VALUE, x.put(-1));
        });
    }

    private static void putGaps() {
        String p = "Promise 22, put, everything above 8 bits that are 0: ";
        for (int gap = 0; gap < 7; gap++) {
            long below = gap == 0 ? 0 : Given.packed(EIGHT.substring(0, gap));
            for (int bit = 8 * gap + 8; bit < 64; bit++) {
                long above = 1L << bit;
                Due.sentence(p + "the bit " + bit + " above " + gap + " characters", x ->
                    Due.is("put", BAD_VALUE, x.put(below | above)));
            }
            int shift = 8 * gap + 8;
            Due.sentence(p + "a character above " + gap + " characters", x ->
                Due.is("put", BAD_VALUE, x.put(below | (long) 'c' << shift)));
        }
    }

    private static void putTooMany() {
        String p = "Promise 22, put, at most 60: ";
        Due.sentence(p + "60 by 1 more", x -> {
            Given.write(x, Given.cards(20));
            Due.is("put", 60, x.put(','));
        });
        Due.sentence(p + "60 by 8 more", x -> {
            Given.write(x, Given.cards(17) + ",s");
            Due.is("count(12)", 52, x.count(12));
            Due.is("put", 60, x.put(Given.packed(EIGHT)));
        });
        Due.sentence(p + "61 by 1 more", x -> {
            Given.write(x, Given.cards(20) + ",");
            Due.is("put", TOO_MANY, x.put('c'));
        });
        Due.sentence(p + "61 by 2 more, of which one would have place", x -> {
            Given.write(x, Given.cards(20));
            Due.is("put", TOO_MANY, x.put(Given.packed(",c")));
            Due.is("count(12)", 59, x.count(12));
            Due.is("fault()", NONE, x.fault());
        });
        Due.sentence(p + "61 by 8 more", x -> {
            Given.write(x, Given.cards(18));
            Due.is("count(12)", 53, x.count(12));
            Due.is("put", TOO_MANY, x.put(Given.packed(EIGHT)));
            Due.is("count(12)", 53, x.count(12));
        });
        Due.sentence(p + "68 by 8 more", x -> {
            Given.write(x, Given.cards(20) + ",");
            Due.is("put", TOO_MANY, x.put(Given.packed(EIGHT)));
        });
        Due.sentence(p + "BAD_VALUE comes ahead of TOO_MANY", x -> {
            Given.write(x, Given.cards(20) + ",");
            Due.is("no character", BAD_VALUE, x.put(0));
            Due.is("a code just below", BAD_VALUE, x.put(32));
            Due.is("a code just above", BAD_VALUE, x.put(127));
            Due.is("a gap", BAD_VALUE, x.put((long) 'c' << 16 | '2'));
            Due.is("a bit above eight", BAD_VALUE, x.put(Given.packed(EIGHT) | 1L << 63));
        });
        Due.sentence(p + "a pad that was wiped has place for 60 again", x -> {
            Given.write(x, Given.cards(20) + ",");
            x.wipe();
            Given.write(x, Given.cards(20) + ",");
            Due.is("count(12)", 60, x.count(12));
        });
        Due.sentence(p + "a pad that was read has place for 60 again", x -> {
            Given.write(x, Given.cards(20));
            x.read();
            Given.write(x, Given.cards(20) + ",");
            Due.is("count(12)", 60, x.count(12));
        });
    }

    private static void wipe() {
        String p = "Promise 23, wipe: ";
        Due.sentence(p + "an empty pad", x -> Due.is("wipe()", 0, x.wipe()));
        Due.sentence(p + "one character", x -> {
            x.put('c');
            Due.is("wipe()", 1, x.wipe());
            Due.is("count(12)", 0, x.count(12));
        });
        Due.sentence(p + "a full pad", x -> {
            Given.write(x, Given.cards(20) + ",");
            Due.is("wipe()", 60, x.wipe());
            Due.is("count(12)", 0, x.count(12));
        });
        Due.sentence(p + "it is empty then", x -> {
            Given.write(x, "c2,da");
            x.wipe();
            Due.is("wipe()", 0, x.wipe());
            Due.is("fault()", 0, x.fault());
            Due.is("read()", BAD_TEXT, x.read());
        });
        Due.sentence(p + "nothing of the old text comes back", x -> {
            Given.write(x, "c2,da");
            x.wipe();
            x.put('c');
            Due.is("fault()", 1, x.fault());
        });
    }

    private static void fault() {
        String p = "Promise 24, fault: ";
        faultIs(p + "an empty text", "", 0);
        faultIs(p + "one card, no fault", "c2", NONE);
        faultIs(p + "it ends too early behind a suit", "c", 1);
        faultIs(p + "it ends too early behind a comma", "c2,", 3);
        faultIs(p + "it ends too early behind a second suit", "c2,d", 4);
        faultIs(p + "the first character", "2c", 0);
        faultIs(p + "the first character, a comma", ",c2", 0);
        faultIs(p + "the first character alone", "2", 0);
        faultIs(p + "the second character", "cd", 1);
        faultIs(p + "the third character", "c2d", 2);
        faultIs(p + "the last character, a suit's place", "c2,2", 3);
        faultIs(p + "the last character, a rank's place", "c2,dd", 4);
        faultIs(p + "the last character, a comma's place", "c2,d3;", 5);
        faultIs(p + "the first of several", "c2,xx,yy", 3);
        faultIs(p + "a fault comes ahead of an early end", "c1,", 1);
        faultIs(p + "just below the ranks", "c1", 1);
        faultIs(p + "just above the digits", "c:", 1);
        faultIs(p + "a ten is t, not 10", "c10", 1);
        faultIs(p + "a capital suit", "C2", 0);
        faultIs(p + "a capital rank", "cA", 1);
    }

    private static void faultOfLongTexts() {
        String p = "Promise 24, fault: ";
        faultIs(p + "the longest text without one, 59 characters", Given.cards(20), NONE);
        faultIs(p + "a full pad that ends too early", Given.cards(20) + ",", 60);
        faultIs(p + "a full pad with a fault at its last character", Given.cards(20) + "c", 59);
        faultIs(p + "a full pad with a fault at its last but one", Given.cards(19) + ",c,,", 58);
        faultIs(p + "58 characters that end too early", Given.cards(19) + ",c", 58);
        faultIs(p + "57 characters that end too early", Given.cards(19) + ",", 57);
        Due.sentence(p + "the pad as it is behind each put", x -> {
            int[] due = {1, NONE, 3, 4, NONE, 6, 6, 6};
            String text = "h9,sk,,9";
            for (int index = 0; index < 8; index++) {
                x.put(text.charAt(index));
                Due.is("fault() of " + text.substring(0, index + 1), due[index], x.fault());
            }
        });
    }

    private static void faultIs(String sentence, String text, int fault) {
        Due.sentence(sentence, x -> {
            Given.write(x, text);
            Due.is("fault() of " + text, fault, x.fault());
            Due.is("the pad stays: count(12)", text.length(), x.count(12));
        });
    }
}
