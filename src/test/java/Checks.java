/** What all tests share: telling a house, and noting answers that are not due. */
final class Checks {
    interface Call {
        Object answer();
    }

    private static int checked = 0;
    private static int wrong = 0;

    private Checks() { }

    static void due(String call, Object got, Object want) {
        checked++;
        if (!got.equals(want)) {
            wrong++;
            System.out.println(call + " answered " + got + ", due is " + want);
        }
    }

    /** The simple name of what the call throws, or its answer. */
    static Object tried(Call call) {
        try {
            return call.answer();
        } catch (RuntimeException e) {
            return e.getClass().getSimpleName();
        }
    }

    static void refused(String call, Call made) {
        due(call, tried(made), "IllegalArgumentException");
    }

    static void noBody(String call, Call made) {
        due(call, tried(made), "NoSuchElementException");
    }

    /** Puts a text on the tape, with as many bytes 0 behind it as twenty by twenty need. */
    static void feed(LentMinds minds, String text) {
        for (int from = 0; from < text.length(); from += 20) {
            int[] numbers = new int[5];
            for (int i = 0; i < 20; i++) {
                int sign = from + i < text.length() ? text.charAt(from + i) & 255 : 0;
                numbers[i / 4] = numbers[i / 4] << 8 | sign;
            }
            minds.feed(numbers[0], numbers[1], numbers[2], numbers[3], numbers[4]);
        }
    }

    static int tell(LentMinds minds, String text) {
        feed(minds, text);
        return minds.house(text.length());
    }

    static LentMinds house(String text) {
        LentMinds minds = new LentMinds();
        int bodies = tell(minds, text);
        if (bodies < 1) {
            due("house of " + text, bodies, "a house");
        }
        return minds;
    }

    static void end(String name) {
        System.out.println(name + ": " + checked + " answers, " + wrong + " not as due");
        if (wrong != 0 || checked == 0) {
            System.exit(1);
        }
    }
}
