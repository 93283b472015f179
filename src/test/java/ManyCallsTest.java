/** An object is used for 512 calls: the last of them are answered as by a new one. */
public final class ManyCallsTest {
    private static final String NINE = "body 0 0 3 30 1 1;body 5 5 8 40 2 2;body 9 1 6 50 3 3;habit 2 2;body 1 9 8 60 4 4;"
        + "sleep 3 5 50;body 15 15 9 70 5 5;cries 4 9 2;body 3 3 8 80 6 6;body 7 2 8 90 7 7;joint 5 6;body 2 2 8 99 8 8;"
        + "cries 7 20 1;body 2 3 8 240 9 9;stride 12;";
    private static final int CALLS = 512;

    private ManyCallsTest() { }

    public static void main(String[] args) {
        each();
        oneBehindTheOther();
        Checks.end("ManyCallsTest");
    }

    /** The calls that go through most; none of them changes anything. */
    private static int call(LentMinds x, int number) {
        switch (number) {
            case 0: return x.safe();
            case 1: return x.two(0b111111);
            case 2: return x.round(0b1111, 2);
            case 3: return x.step(0b110000001, 999);
            case 4: return x.back(0b111, 40, 0);
            case 5: return x.back(0b110000001, 39, 1);
            case 6: return x.often(1);
            case 7: return x.pays(5, 2, 3);
            case 8: return x.run(5, 2, 0, 99);
            case 9: return x.beds(0, 4, 0);
            case 10: return x.stay(8);
            case 11: return x.gone(0);
            case 12: return x.judge(0);
            case 13: return x.best(4);
            case 14: return x.density(0b1111);
            default: return x.over();
        }
    }

    private static void each() {
        for (int number = 0; number < 16; number++) {
            LentMinds x = new LentMinds();
            Checks.feed(x, NINE);
            x.house(NINE.length());
            int used = (NINE.length() + 19) / 20 + 1;
            int first = call(x, number);
            int others = 0;
            for (int i = used + 1; i < CALLS; i++) {
                others += call(x, number) == first ? 0 : 1;
            }
            Checks.due("other answers of call " + number, others, 0);
        }
    }

    private static void oneBehindTheOther() {
        int[] due = new int[16];
        for (int number = 0; number < 16; number++) {
            due[number] = call(Checks.house(NINE), number);
        }
        LentMinds x = Checks.house(NINE);
        int used = (NINE.length() + 19) / 20 + 1;
        for (int i = 0; used + i < CALLS; i++) {
            // by steps of 7 each comes behind another, and all come
            int number = (i * 7 + i / 16) % 16;
            Checks.due("call " + number + " as the " + i + "th", call(x, number), due[number]);
        }
    }
}
