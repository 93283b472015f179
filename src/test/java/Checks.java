/** What all tests share: telling a house, and noting answers that are not due. */
final class Checks {
    interface Call {
        Object answer();
    }

    /** A call with one number left open. */
    interface NumberCall {
        Object answer(LentMinds x, int number);
    }

    private static int checked = 0;
    private static int wrong = 0;

    private Checks() { }

    static void due(String call, Object got, Object want) {
        checked++;
        if (!got.equals(want)) {
            wrong++;
            System.out.println(call + " answered " + got + ", due is " + want);
        }
    }

    /** The simple name of what the call throws, or its answer. */
    static Object tried(Call call) {
        try {
            return call.answer();
        } catch (RuntimeException e) {
            return e.getClass().getSimpleName();
        }
    }

    static void refused(String call, Call made) {
        due(call, tried(made), "IllegalArgumentException");
    }

    static void noBody(String call, Call made) {
        due(call, tried(made), "NoSuchElementException");
    }

    static void noState(String call, Call made) {
        due(call, tried(made), "IllegalStateException");
    }

    /**
     * A number of a call in the house of a text: the least and the greatest are answered; the ones
     * just beyond them, and the farthest, are refused, and all stays as it was.
     */
    static void numbers(String call, String text, int least, int most, NumberCall made) {
        for (int number : new int[] {least, most}) {
            LentMinds x = house(text);
            Object got = tried(() -> made.answer(x, number));
            due(call + " of " + number + " throws", isThrown(got), false);
        }
        for (int number : new int[] {least - 1, most + 1, Integer.MIN_VALUE, Integer.MAX_VALUE}) {
            LentMinds x = house(text);
            refusedAndStays(call + " of " + number, x, () -> made.answer(x, number), "IllegalArgumentException");
        }
    }

    /** A BODY of a call in the house of a text that has so many: all but those are no such body, and all stays. */
    static void bodies(String call, String text, int many, NumberCall made) {
        for (int number : new int[] {0, many - 1}) {
            LentMinds x = house(text);
            Object got = tried(() -> made.answer(x, number));
            due(call + " of body " + number + " throws", isThrown(got), false);
        }
        for (int number : new int[] {-1, many, many + 1, 9, 31, 32, Integer.MIN_VALUE, Integer.MAX_VALUE}) {
            LentMinds x = house(text);
            refusedAndStays(call + " of body " + number, x, () -> made.answer(x, number), "NoSuchElementException");
        }
        LentMinds nobody = new LentMinds();
        refusedAndStays(call + " without a house", nobody, () -> made.answer(nobody, 0), "NoSuchElementException");
    }

    private static boolean isThrown(Object answer) {
        return answer instanceof String name && name.endsWith("Exception");
    }

    /** The call throws what is due, and behind it all is as it was ahead of it. */
    static void refusedAndStays(String call, LentMinds x, Call made, String thrown) {
        String before = picture(x);
        due(call, tried(made), thrown);
        due("what stands behind " + call, picture(x), before);
    }

    /** All that the face tells of an object without changing it. */
    static String picture(LentMinds x) {
        StringBuilder all = new StringBuilder("told");
        for (int what = 0; what < 5; what++) {
            all.append(' ').append(x.told(what));
        }
        for (int b = 0; b < x.told(0); b++) {
            all.append("; body ").append(b);
            for (int what = 0; what < 8; what++) {
                all.append(' ').append(x.body(b, what)).append('/').append(x.now(b, what));
            }
        }
        all.append("; fault ").append(x.fault()).append(" mind ").append(x.mind()).append("; day, judge, count");
        for (int what = 0; what < 4; what++) {
            all.append(' ').append(x.day(what)).append('/').append(x.judge(what));
        }
        for (int what = 0; what < 6; what++) {
            all.append(' ').append(x.count(what));
        }
        return all.append("; placed ").append(x.placed(0)).append(' ').append(x.placed(1)).toString();
    }

    /** Puts a text on the tape, with as many bytes 0 behind it as twenty by twenty need. */
    static void feed(LentMinds minds, String text) {
        for (int from = 0; from < text.length(); from += 20) {
            int[] numbers = new int[5];
            for (int i = 0; i < 20; i++) {
                int sign = from + i < text.length() ? text.charAt(from + i) & 255 : 0;
                numbers[i / 4] = numbers[i / 4] << 8 | sign;
            }
            minds.feed(numbers[0], numbers[1], numbers[2], numbers[3], numbers[4]);
        }
    }

    static int tell(LentMinds minds, String text) {
        feed(minds, text);
        return minds.house(text.length());
    }

    static LentMinds house(String text) {
        LentMinds minds = new LentMinds();
        int bodies = tell(minds, text);
        if (bodies < 1) {
            due("house of " + text, bodies, "a house");
        }
        return minds;
    }

    static void end(String name) {
        System.out.println(name + ": " + checked + " answers, " + wrong + " not as due");
        if (wrong != 0 || checked == 0) {
            System.exit(1);
        }
    }
}
