/** Promises 17 to 23: run, best, often, taught, pays, trust, answer. */
public final class RulesTest {
    /** The mind stays with body 0 up to the last minute; who has it then is told by the worth. */
    private static final String LAST = "breath 0;stride 30;day 30;";

    private RulesTest() { }

    public static void main(String[] args) {
        howOften();
        round();
        choices();
        whenAsked();
        calls();
        draws();
        nothingChanges();
        bestAndOften();
        lessons();
        trusting();
        wrongInputs();
        Checks.end("RulesTest");
    }

    private static void howOften() {
        LentMinds x = Checks.house("body 0 0 60 240 0 0;body 0 0 60 240 0 0;body 0 0 60 240 0 0;" + LAST);
        Checks.due("each minute but the first", x.run(0, 1, 3, 0), 29);
        Checks.due("each tenth", x.run(0, 10, 3, 0), 2);
        Checks.due("in the last", x.run(0, 29, 3, 0), 1);
        Checks.due("not at all", x.run(0, 30, 3, 0), 0);
        LentMinds y = Checks.house("body 0 0 60 240 0 0;body 0 0 60 240 0 0;day 30;");
        Checks.due("with a breath", y.run(0, 1, 3, 0), 15);
        y.pass(1);
        Checks.due("on its way at first", y.run(0, 28, 3, 0), 1);
        Checks.due("and then too late", y.run(0, 29, 3, 0), 0);
    }

    private static void round() {
        String three = "body 0 0 60 1 0 1;body 0 0 60 1 0 2;body 0 0 60 240 0 4;" + LAST;
        LentMinds x = Checks.house(three);
        x.pass(2);
        Checks.due("behind the last the first", x.run(0, 29, 1, 0), 1);
        x.bed(0, true);
        Checks.due("not one in bed", x.run(0, 29, 1, 0), 2);
        LentMinds w = Checks.house("body 0 0 60 1 0 1;body 0 0 60 240 0 2;body 0 0 60 1 0 4;" + LAST);
        w.pass(1);
        Checks.due("the next, not the first", w.run(0, 29, 1, 0), 4);
        LentMinds y = Checks.house(three + "sleep 0 29 29;");
        y.pass(2);
        Checks.due("not one asleep", y.run(0, 29, 1, 0), 2);
        LentMinds z = Checks.house(three);
        z.minutes(1);
        z.pass(1);
        z.minutes(1);
        z.pass(2);
        Checks.due("not one that is done", z.run(0, 1, 3, 0), 0);
        Checks.due("all that are done then", z.run(0, 1, 2, 0), 2);
        Checks.due("but worth of this run", z.run(0, 1, 1, 0), 0);
    }

    private static void chosen(String name, int rule, int worth, String... candidates) {
        StringBuilder text = new StringBuilder("body 0 0 60 240 0 0;");
        for (String c : candidates) {
            text.append("body ").append(c).append(';');
        }
        LentMinds x = Checks.house(text + LAST);
        Checks.due(name, x.run(rule, 29, 1, 0), worth);
    }

    private static void choices() {
        chosen("DUE: the least slack, the first of alike", 1, 2, "0 0 40 1 0 1", "0 0 35 1 0 2", "0 0 35 1 0 4");
        chosen("HARM: by fractions", 2, 4, "0 0 40 1 12 1", "0 0 35 1 6 2", "0 0 35 1 8 4");
        chosen("HARM: of alike the first", 2, 1, "0 0 40 1 12 1", "0 0 35 1 7 2", "0 0 35 1 7 4");
        chosen("HARM: by 1 at least", 2, 2, "0 0 29 1 8 1", "0 0 5 1 9 2", "0 0 10 1 8 4");
        chosen("SOON: the fewest more", 4, 2, "0 0 60 5 0 1", "0 0 60 1 0 2", "0 0 60 1 0 4");
        chosen("ROUND: the next", 0, 1, "0 0 60 1 0 1", "0 0 1 1 9 2", "0 0 60 1 0 4");
        LentMinds x = Checks.house("body 0 0 60 240 0 0;body 9 0 60 1 0 1;body 4 0 60 1 0 2;body 3 0 60 1 0 4;"
            + "breath 0;stride 5;day 30;");
        Checks.due("NEAR: what costs least, the first of alike", x.run(3, 29, 1, 0), 2);
        x.bed(2, true);
        Checks.due("NEAR: not one in bed", x.run(3, 29, 1, 0), 4);
    }

    private static void whenAsked() {
        LentMinds x = Checks.house("body 0 0 60 5 0 1;body 0 0 3 9 1 2;day 30;");
        // done behind minute 4, on its way in 5, then nine minutes with body 1
        Checks.due("when it is done", x.run(1, 60, 1, 0), 3);
        Checks.due("harm in 3, 4 and 5", x.run(1, 60, 0, 0), 3);
        Checks.due("one pass", x.run(1, 60, 3, 0), 1);
        x.bed(0, true);
        Checks.due("when it is in bed", x.run(1, 60, 1, 0), 2);
        LentMinds y = Checks.house("body 0 0 60 5 0 1;sleep 0 2 29;body 0 0 60 9 1 2;breath 0;day 30;");
        Checks.due("when it sleeps", y.run(1, 60, 1, 0), 2);
        LentMinds z = Checks.house("body 0 0 60 5 0 1;day 30;");
        Checks.due("without any it stays", z.run(0, 1, 1, 0), 1);
        Checks.due("and does not pass", z.run(0, 1, 3, 0), 0);
    }

    private static void calls() {
        String three = "body 0 0 60 240 0 0;body 0 0 60 1 0 1;body 0 0 60 1 0 2;body 0 0 10 1 1 4;" + LAST;
        Checks.due("nobody cries", Checks.house(three).run(5, 29, 3, 7), 0);
        Checks.due("one that is well", Checks.house(three + "cries 2 1 20;").run(5, 29, 1, 7), 2);
        Checks.due("one that has drifted", Checks.house(three + "cries 3 20 0;cries 2 20 0;").run(5, 29, 1, 7), 4);
        Checks.due("of two the first", Checks.house(three + "cries 3 20 0;cries 1 20 20;").run(5, 29, 1, 7), 1);
        Checks.due("not the one it is with", Checks.house(three + "cries 0 20 20;").run(5, 29, 3, 7), 0);
    }

    /** In which minute the second of two bodies cries first, each having its draw in each minute. */
    private static int firstCry(int seed, int below) {
        long s = seed & 0xffffffffL;
        for (int minute = 0; minute < 30; minute++) {
            s = (s * 1103515245L + 12345L) & 0xffffffffL;
            s = (s * 1103515245L + 12345L) & 0xffffffffL;
            if ((s >> 16) % 32768 % 20 < below) {
                return minute;
            }
        }
        return 30;
    }

    private static void draws() {
        LentMinds x = Checks.house("body 0 0 60 240 0 0;body 0 0 60 29 0 5;cries 1 1 2;" + LAST);
        LentMinds y = Checks.house("body 0 0 60 240 0 0;body 0 0 60 25 0 5;cries 1 1 2;" + LAST);
        int[] seeds = {0, 1, 2, 77, -1, -5, 123456789, Integer.MIN_VALUE, Integer.MAX_VALUE};
        for (int seed : seeds) {
            int cry = Math.max(1, firstCry(seed, 2));
            // asked from minute 1 on; without a second cry of another the mind stays there
            if (firstCry(seed, 2) >= 1) {
                Checks.due("a cry by seed " + seed, x.run(5, 1, 1, seed), 30 - cry >= 29 ? 5 : 0);
                Checks.due("another by seed " + seed, y.run(5, 1, 1, seed), 30 - cry >= 25 ? 5 : 0);
            }
        }
    }

    private static void nothingChanges() {
        LentMinds x = Checks.house("body 0 0 2 9 3 1;body 0 0 2 9 3 1;cries 1 9 9;day 30;");
        x.minutes(2);
        x.run(5, 1, 0, 99);
        x.best(1);
        x.often(0);
        x.taught(1, 3, 0, 1);
        x.pays(3, 0, 1);
        Checks.due("NOW", x.count(0), 2);
        Checks.due("the mind", x.mind(), 0);
        Checks.due("harm, worth, done, passes", x.day(0) + x.day(1) + x.day(2) + x.day(3), 0);
        Checks.due("WITHOUT", x.now(1, 0), 2);
        Checks.due("DID", x.now(0, 1), 2);
    }

    private static LentMinds five() {
        LentMinds x = Checks.house("body 0 0 4 60 3 1;body 9 9 5 40 2 8;body 3 1 7 30 9 5;body 12 2 3 50 1 9;"
            + "body 1 1 9 20 4 7;habit 2 3;sleep 3 10 40;day 200;");
        x.minutes(7);
        return x;
    }

    private static void bestAndOften() {
        for (int q = 1; q <= 60; q += 3) {
            LentMinds x = five();
            int best = 0;
            for (int rule = 1; rule < 5; rule++) {
                int less = x.run(best, q, 0, 0) - x.run(rule, q, 0, 0);
                if (less > 0 || less == 0 && x.run(rule, q, 1, 0) > x.run(best, q, 1, 0)) {
                    best = rule;
                }
            }
            Checks.due("best(" + q + ")", x.best(q), best);
        }
        for (int rule = 0; rule < 5; rule++) {
            LentMinds x = five();
            int often = 1;
            for (int q = 2; q <= 60; q++) {
                often = x.run(rule, q, 0, 0) < x.run(rule, often, 0, 0) ? q : often;
            }
            Checks.due("often(" + rule + ")", x.often(rule), often);
        }
        // no harm by any rule: the most worth is had by SOON, in the last minute
        LentMinds y = Checks.house("body 0 0 60 240 0 0;body 0 0 60 2 0 1;body 0 0 60 1 0 2;" + LAST);
        Checks.due("of alike harm the most worth", y.best(29), 4);
        Checks.due("of alike ones the first", y.best(30), 0);
        Checks.due("of alike q the least", y.often(0), 1);
        LentMinds z = new LentMinds();
        Checks.due("best(1) without a house", z.best(1), -1);
        Checks.due("often(4) without a house", z.often(4), 1);
    }

    private static void lessons() {
        LentMinds x = Checks.house("body 0 0 60 240 0 0;body 0 0 3 40 2 0;habit 1 1;body 0 0 3 9 5 0;"
            + "body 0 0 3 40 1 0;habit 3 2;day 30;");
        Checks.due("five minutes less of harm", x.taught(1, 5, 0, 60), 10);
        Checks.due("no habit", x.taught(2, 5, 0, 60), 0);
        Checks.due("half a habit", x.taught(3, 5, 0, 60), 2);
        Checks.due("who pays most", x.pays(5, 0, 60), 1);
        x.bed(1, true);
        Checks.due("then the next", x.pays(5, 0, 60), 3);
        Checks.due("none pays: the first", x.pays(1, 0, 60), 0);
        Checks.due("one below N", x.taught(2, 8, 0, 60), 0);
        Checks.refused("at N", () -> x.taught(2, 9, 0, 60));
        Checks.due("nobody can", Checks.house("body 0 0 60 9 0 0;day 30;").pays(9, 0, 60), -1);
        LentMinds y = Checks.house("body 0 0 60 2 0 0;body 0 0 3 5 1 0;day 30;");
        y.minutes(1);
        Checks.refused("with DID at N", () -> y.taught(0, 1, 0, 1));
        y.minutes(1);
        Checks.refused("done", () -> y.taught(0, 1, 0, 1));
        Checks.due("the only one who can", y.pays(4, 1, 1), 1);
        Checks.due("more is too much", y.pays(5, 1, 1), -1);
    }

    private static void trusting() {
        LentMinds x = Checks.house("body 0 0 9 9 2 0;cries 0 20 20;body 0 0 9 9 99 0;cries 1 1 20;body 0 0 9 9 9 0;"
            + "body 0 0 9 9 0 0;cries 3 20 0;");
        Checks.due("half", x.trust(0, 10), 500);
        Checks.due("always", x.trust(1, 20), 1000);
        Checks.due("hardly", x.trust(1, 1), 2);
        Checks.due("never cries", x.trust(2, 20), -1);
        Checks.due("more than", x.answer(0, 10, 2, 1), true);
        Checks.due("not as much as", x.answer(0, 10, 1, 1), false);
        Checks.due("for nothing", x.answer(0, 10, 1, 0), true);
        Checks.due("no harm for nothing", x.answer(3, 10, 60, 0), false);
        Checks.due("no trust", x.answer(2, 10, 60, 0), false);
        Checks.due("1,000 of 99 for an hour", x.answer(1, 20, 60, 5939), true);
        Checks.due("and no more", x.answer(1, 20, 60, 5940), false);
        Checks.due("the greatest cost", x.answer(1, 20, 60, 9999), false);
    }

    private static void wrongInputs() {
        LentMinds x = Checks.house("body 0 0 9 9 2 0;cries 0 20 20;body 0 0 9 9 2 0;");
        int[][] runs = {{-1, 1, 0}, {6, 1, 0}, {0, 0, 0}, {0, 61, 0}, {0, 1, -1}, {0, 1, 4}};
        for (int[] r : runs) {
            Checks.refused("run", () -> x.run(r[0], r[1], r[2], 0));
        }
        Checks.refused("best(0)", () -> x.best(0));
        Checks.refused("best(61)", () -> x.best(61));
        Checks.refused("best(0) without a house", () -> new LentMinds().best(0));
        Checks.refused("often(-1)", () -> x.often(-1));
        Checks.refused("often(5)", () -> x.often(5));
        int[][] lessons = {{0, 0, 1}, {240, 0, 1}, {1, -1, 1}, {1, 5, 1}, {1, 0, 0}, {1, 0, 61}};
        for (int[] l : lessons) {
            Checks.refused("taught", () -> x.taught(0, l[0], l[1], l[2]));
            Checks.refused("pays", () -> x.pays(l[0], l[1], l[2]));
            Checks.refused("pays without a house", () -> new LentMinds().pays(l[0], l[1], l[2]));
            Checks.noBody("taught nobody", () -> x.taught(2, l[0], l[1], l[2]));
        }
        Checks.refused("trust(0, 0)", () -> x.trust(0, 0));
        Checks.refused("trust(0, 21)", () -> x.trust(0, 21));
        Checks.noBody("trust(2, 1)", () -> x.trust(2, 1));
        int[][] answers = {{0, 1, 0}, {21, 1, 0}, {1, 0, 0}, {1, 61, 0}, {1, 1, -1}, {1, 1, 10000}};
        for (int[] a : answers) {
            Checks.refused("answer", () -> x.answer(0, a[0], a[1], a[2]));
            Checks.refused("answer without cries", () -> x.answer(1, a[0], a[1], a[2]));
            Checks.noBody("answer of nobody", () -> x.answer(2, a[0], a[1], a[2]));
        }
    }
}
