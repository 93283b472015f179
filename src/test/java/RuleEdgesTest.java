/** Promises 17 to 23 at their edges: when a rule is asked, whom it takes, how cries are drawn, what lessons pay. */
public final class RuleEdgesTest {
    private static final String LAST = "breath 0;stride 30;day 30;";
    private static final int[] SEEDS = {0, 1, -1, 2, 77, -5, 12345, 65535, 65536, 0x7fff0000, 0x80000000, 0x7fffffff,
        1103515245, -1103515245, 123456789};

    private RuleEdgesTest() { }

    public static void main(String[] args) {
        leastAndGreatestStay();
        ofThisRun();
        behindTheWay();
        askedAgain();
        askedWhenItSleeps();
        stayedWithNobodyElse();
        behindTheLastTheFirst();
        leastSlack();
        harmByOneAtLeast();
        nearest();
        soonest();
        ofAlikeOnesTheFirst();
        seedOfOtherRules();
        drawnByRuleFive();
        drawnForThoseWhoCan();
        drawnOnTheWay();
        alwaysAndNever();
        theFirstThatCries();
        noMinuteLeft();
        bestOfRules();
        oftenAtItsEnds();
        lessonsJustBelow();
        lessonsThatHarm();
        whoPays();
        trustAtItsEnds();
        answersAtTheirEnds();
        Checks.end("RuleEdgesTest");
    }

    private static void leastAndGreatestStay() {
        LentMinds x = Checks.house("body 0 0 60 240 0 0;body 0 0 60 240 0 0;breath 0;");
        Checks.due("q 1: each minute but the first", x.run(0, 1, 3, 0), 479);
        Checks.due("q 2", x.run(0, 2, 3, 0), 239);
        // in 59, 118, .., 472, and in 476, when the first is done
        Checks.due("q 59", x.run(0, 59, 3, 0), 9);
        Checks.due("q 60", x.run(0, 60, 3, 0), 7);
        Checks.due("all are done", x.run(0, 60, 2, 0), 2);
    }

    private static void ofThisRun() {
        LentMinds x = Checks.house("body 0 0 60 240 0 0;body 0 0 60 240 0 0;" + LAST);
        x.minutes(10);
        // in 13, 16, .., 28
        Checks.due("minutes ahead of it do not count", x.run(0, 3, 3, 0), 6);
        Checks.due("in the last", x.run(0, 19, 3, 0), 1);
        Checks.due("behind it", x.run(0, 20, 3, 0), 0);
    }

    private static void behindTheWay() {
        LentMinds x = Checks.house("body 0 0 60 240 0 0;body 0 0 60 240 0 0;breath 2;day 30;");
        // in 3, 8, .., 28
        Checks.due("minutes of the way do not count", x.run(0, 3, 3, 0), 6);
        x.pass(1);
        // there in 2, asked in 5, 10, .., 25
        Checks.due("nor those of a way that has begun", x.run(0, 3, 3, 0), 5);
    }

    private static void askedAgain() {
        String text = "body 0 0 60 240 0 0;body 0 0 60 N 0 5;sleep 1 0 10;" + LAST;
        LentMinds x = Checks.house(text.replace("N", "10"));
        Checks.due("in 10 there is none, in 11 there is", x.run(0, 10, 1, 0), 5);
        Checks.due("one pass, and one that is done leads back", x.run(0, 10, 3, 0), 2);
        Checks.due("ten minutes and no more", Checks.house(text.replace("N", "11")).run(0, 10, 1, 0), 0);
    }

    private static void askedWhenItSleeps() {
        String text = "body 0 0 60 240 0 0;sleep 0 3 4;body 0 0 60 N 0 5;" + LAST;
        Checks.due("asked in 3", Checks.house(text.replace("N", "27")).run(0, 60, 1, 0), 5);
        Checks.due("and not ahead of it", Checks.house(text.replace("N", "28")).run(0, 60, 1, 0), 0);
        String later = text + "sleep 1 3 3;";
        Checks.due("none in 3, asked in 4", Checks.house(later.replace("N", "26")).run(0, 60, 1, 0), 5);
        Checks.due("and not ahead of it", Checks.house(later.replace("N", "27")).run(0, 60, 1, 0), 0);
        String both = text + "sleep 1 3 4;";
        Checks.due("none in 3 and 4, in 5 it is awake", Checks.house(both.replace("N", "1")).run(0, 60, 3, 0), 0);
    }

    private static void stayedWithNobodyElse() {
        LentMinds x = Checks.house("body 0 0 60 3 0 9;" + LAST);
        for (int rule = 0; rule <= 5; rule++) {
            Checks.due("one alone, rule " + rule, x.run(rule, 1, 3, 7), 0);
            Checks.due("its worth, rule " + rule, x.run(rule, 1, 1, 7), 9);
        }
        LentMinds y = Checks.house("body 0 0 60 240 0 0;body 0 0 60 1 0 3;body 0 0 60 9 0 3;sleep 2 0 479;" + LAST);
        y.bed(1, true);
        for (int rule = 0; rule <= 5; rule++) {
            Checks.due("none that can be, rule " + rule, y.run(rule, 1, 3, 7), 0);
        }
    }

    private static void behindTheLastTheFirst() {
        // each has had it once behind nine minutes: all are done, in the order 4, .., 8, 0, .., 3
        StringBuilder text = new StringBuilder();
        for (int b = 0; b < 9; b++) {
            text.append("body 0 0 60 1 0 ").append(b + 1).append(';');
        }
        LentMinds x = Checks.house(text + "breath 0;day 30;");
        x.pass(4);
        x.minutes(23);
        int[] worth = {6, 13, 21, 30, 31, 33, 36};
        Checks.due("from 23 to the end seven minutes", x.run(0, 1, 1, 0), worth[6]);
        for (int last = 28; last > 23; last--) {
            LentMinds y = Checks.house(text + "breath 0;day 30;");
            y.pass(4);
            y.minutes(last);
            Checks.due("from " + last + " on", y.run(0, 1, 1, 0), worth[29 - last]);
        }
        LentMinds z = Checks.house("body 0 0 60 1 0 1;body 0 0 60 240 0 2;" + LAST);
        z.pass(1);
        Checks.due("of two the other", z.run(0, 29, 1, 0), 1);
    }

    /** The mind goes but once, in the last minute; whose worth is had tells to whom. */
    private static void chosen(String name, int rule, int worth, String... candidates) {
        StringBuilder text = new StringBuilder("body 0 0 60 240 0 0;");
        for (String c : candidates) {
            text.append("body ").append(c).append(';');
        }
        Checks.due(name, Checks.house(text + LAST).run(rule, 29, 1, 0), worth);
    }

    private static void leastSlack() {
        chosen("slack 0 and 1", 1, 1, "0 0 29 1 0 1", "0 0 30 1 0 2");
        chosen("slack 1 and 0", 1, 2, "0 0 30 1 0 1", "0 0 29 1 0 2");
        chosen("slack -1 and 0", 1, 1, "0 0 28 1 0 1", "0 0 29 1 0 2");
        chosen("slack 0 and -1", 1, 2, "0 0 29 1 0 1", "0 0 28 1 0 2");
        chosen("slack -27 and -28", 1, 2, "0 0 2 1 0 1", "0 0 1 1 0 2");
        chosen("alike", 1, 1, "0 0 1 1 0 1", "0 0 1 1 0 2");
    }

    private static void harmByOneAtLeast() {
        // behind 29 minutes SLACK is H less 29
        chosen("5 by 1, 9 by 2", 2, 1, "0 0 29 1 5 1", "0 0 30 1 9 2");
        chosen("5 by 1, 10 by 2: alike", 2, 1, "0 0 29 1 5 1", "0 0 30 1 10 2");
        chosen("10 by 2, 5 by 1: alike", 2, 1, "0 0 30 1 10 1", "0 0 29 1 5 2");
        chosen("5 by 1, 11 by 2", 2, 2, "0 0 29 1 5 1", "0 0 30 1 11 2");
        chosen("11 by 2, 5 by 1", 2, 1, "0 0 30 1 11 1", "0 0 29 1 5 2");
        chosen("11 by 2, 6 by 1", 2, 2, "0 0 30 1 11 1", "0 0 29 1 6 2");
        chosen("slack -1 and -28 by 1", 2, 1, "0 0 28 1 5 1", "0 0 1 1 5 2");
        chosen("slack -28 and -1 by 1", 2, 1, "0 0 1 1 5 1", "0 0 28 1 5 2");
        chosen("slack -1 and 0 by 1", 2, 1, "0 0 28 1 5 1", "0 0 29 1 5 2");
        chosen("slack 0 and -1 by 1", 2, 1, "0 0 29 1 5 1", "0 0 28 1 5 2");
        chosen("slack -28 and more harm", 2, 2, "0 0 29 1 5 1", "0 0 1 1 6 2");
        chosen("slack 0 and more harm", 2, 2, "0 0 1 1 5 1", "0 0 29 1 6 2");
        chosen("2 by 3, 4 by 6: alike", 2, 1, "0 0 31 1 2 1", "0 0 34 1 4 2");
        chosen("2 by 3, 5 by 6", 2, 2, "0 0 31 1 2 1", "0 0 34 1 5 2");
        chosen("2 by 3, 3 by 6", 2, 1, "0 0 31 1 2 1", "0 0 34 1 3 2");
        chosen("99 by 32, 3 by 1", 2, 1, "0 0 60 1 99 1", "0 0 29 1 3 2");
        chosen("no harm: the first", 2, 1, "0 0 60 1 0 1", "0 0 1 1 0 2");
        chosen("any harm", 2, 2, "0 0 1 1 0 1", "0 0 60 1 1 2");
    }

    private static void nearest() {
        String far = "body 7 7 60 240 0 0;body 7 0 60 1 0 1;body 0 7 60 1 0 2;body 8 1 60 1 0 4;breath 0;stride 7;day 30;";
        Checks.due("7, 7 and 7 by 7: alike", Checks.house(far).run(3, 28, 1, 0), 1);
        Checks.due("7, 7 and 6 by 7", Checks.house(far.replace("8 1", "7 1")).run(3, 29, 1, 0), 4);
        LentMinds x = Checks.house("body 0 0 60 240 0 1;body 15 15 60 240 0 2;body 14 15 60 1 0 4;body 1 0 60 1 0 8;"
            + "breath 0;stride 15;day 30;");
        x.pass(1);
        // it is there in 2, and has been there for 27 in 29
        Checks.due("near the second, not near the first", x.run(3, 27, 1, 0), 4);
    }

    private static void soonest() {
        LentMinds x = Checks.house("body 0 0 60 240 0 0;body 0 0 60 10 0 1;body 0 0 60 2 0 2;body 0 0 60 3 0 4;" + LAST);
        x.pass(1);
        x.minutes(8);
        x.pass(0);
        Checks.due("2 more, 2 more, 3 more: the first of alike", x.run(4, 20, 1, 0), 1);
        x.pass(3);
        x.minutes(2);
        x.pass(0);
        Checks.due("2, 2 and 1 more", x.run(4, 19, 1, 0), 4);
        chosen("240 and 239", 4, 0, "0 0 60 240 0 1", "0 0 60 239 0 2");
        chosen("1 and 240", 4, 1, "0 0 60 1 0 1", "0 0 60 240 0 2");
        chosen("240 and 1", 4, 2, "0 0 60 240 0 1", "0 0 60 1 0 2");
    }

    private static void ofAlikeOnesTheFirst() {
        // with the second, third or last of four: all others are alike
        for (int with = 0; with < 4; with++) {
            StringBuilder text = new StringBuilder();
            for (int b = 0; b < 4; b++) {
                text.append("body 0 0 9 ").append(b == with ? 240 : 1).append(" 3 ").append(1 << b).append(';');
                text.append("cries ").append(b).append(" 20 20;");
            }
            LentMinds x = Checks.house(text + LAST);
            x.pass(with);
            int first = with == 0 ? 2 : 1;
            for (int rule = 1; rule <= 5; rule++) {
                Checks.due("with " + with + ", rule " + rule, x.run(rule, 29, 1, 7), first);
            }
            Checks.due("with " + with + ", ROUND", x.run(0, 29, 1, 7), 1 << (with + 1) % 4);
        }
    }

    private static void seedOfOtherRules() {
        LentMinds x = Checks.house("body 0 0 3 20 4 1;cries 0 9 9;body 5 5 4 30 3 2;cries 1 9 9;body 9 1 5 40 2 4;"
            + "cries 2 9 9;day 100;");
        for (int rule = 0; rule < 5; rule++) {
            for (int what = 0; what < 4; what++) {
                int due = x.run(rule, 3, what, 0);
                for (int seed : new int[] {1, -1, Integer.MIN_VALUE, Integer.MAX_VALUE}) {
                    Checks.due("rule " + rule + " by seed " + seed, x.run(rule, 3, what, seed), due);
                }
            }
        }
    }

    /** Draws as the document tells them, by numbers that do not wrap of themselves. */
    private static final class Draws {
        private long seed;

        Draws(int seed) {
            this.seed = seed & 0xffffffffL;
        }

        int next() {
            seed = (seed * 1103515245L + 12345L) % (1L << 32);
            return (int) (seed / (1L << 16) % (1L << 15) % 20);
        }

        /** The first minute from a told one on in which the last of so many draws a minute is below. */
        int firstBelow(int below, int aMinute, int from, int day) {
            for (int minute = 0; minute < day; minute++) {
                int drawn = 0;
                for (int i = 0; i < aMinute; i++) {
                    drawn = next();
                }
                if (minute >= from && drawn < below) {
                    return minute;
                }
            }
            return day;
        }
    }

    /** One that drifts in minute 1, and does a harm of 1 up to the minute in which the mind comes. */
    private static int harmTo(int minute) {
        return Math.max(0, minute - 1);
    }

    private static void drawnByRuleFive() {
        for (int seed : SEEDS) {
            for (int chance : new int[] {1, 2, 5, 10, 19, 20}) {
                String text = "body 0 0 60 240 0 0;body 0 0 1 240 1 0;breath 0;cries 1 " + chance + " ";
                String name = "a chance of " + chance + " by seed " + seed;
                LentMinds x = Checks.house(text + chance + ";");
                Checks.due(name, x.run(5, 1, 0, seed), harmTo(new Draws(seed).firstBelow(chance, 2, 1, 480)));
                Checks.due(name + ", asked from 10 on", x.run(5, 10, 0, seed),
                    harmTo(new Draws(seed).firstBelow(chance, 2, 10, 480)));
                // ahead of minute 2 it has drifted
                Checks.due(name + ", when it has drifted", Checks.house(text + "0;").run(5, 1, 0, seed),
                    harmTo(new Draws(seed).firstBelow(chance, 2, 2, 480)));
            }
        }
    }

    private static void drawnForThoseWhoCan() {
        for (int seed : SEEDS) {
            String text = "body 0 0 60 240 0 0;body 0 0 60 1 0 0;body 0 0 1 240 1 0;breath 0;cries 2 3 3;";
            LentMinds all = Checks.house(text);
            Checks.due("three draws by " + seed, all.run(5, 1, 0, seed), harmTo(new Draws(seed).firstBelow(3, 3, 1, 480)));
            LentMinds abed = Checks.house(text);
            abed.bed(1, true);
            Checks.due("one in bed by " + seed, abed.run(5, 1, 0, seed), harmTo(new Draws(seed).firstBelow(3, 2, 1, 480)));
            LentMinds asleep = Checks.house(text + "sleep 1 0 479;");
            Checks.due("one asleep by " + seed, asleep.run(5, 1, 0, seed), harmTo(new Draws(seed).firstBelow(3, 2, 1, 480)));
            LentMinds done = Checks.house(text);
            done.pass(1);
            done.minutes(1);
            done.pass(0);
            // one minute is gone, so that the first of the run is the one in which it drifts
            Checks.due("one done by " + seed, done.run(5, 1, 0, seed), new Draws(seed).firstBelow(3, 2, 1, 479));
            LentMinds own = Checks.house(text);
            own.bed(0, true);
            own.bed(1, true);
            Checks.due("the mind's own in bed by " + seed, own.run(5, 60, 0, seed),
                harmTo(new Draws(seed).firstBelow(3, 1, 0, 480)));
        }
    }

    private static void drawnOnTheWay() {
        for (int seed : SEEDS) {
            LentMinds x = Checks.house("body 0 0 60 240 0 0;body 0 0 1 240 1 0;body 0 0 60 240 0 0;breath 5;cries 1 2 2;");
            x.pass(0);
            x.pass(2);
            // there in 5, asked from 6 on, five minutes to go; the second of three draws cries
            Draws draws = new Draws(seed);
            int came = 480;
            for (int minute = 0; minute < 480 && came == 480; minute++) {
                draws.next();
                boolean cries = draws.next() < 2;
                draws.next();
                came = minute >= 6 && cries ? Math.min(480, minute + 5) : came;
            }
            Checks.due("drawn on the way, too, by " + seed, x.run(5, 1, 0, seed), harmTo(came));
        }
    }

    private static void alwaysAndNever() {
        for (int seed : SEEDS) {
            String two = "body 0 0 60 240 0 0;body 0 0 1 240 1 0;" + LAST;
            Checks.due("20 of 20 by " + seed, Checks.house(two + "cries 1 1 20;").run(5, 1, 0, seed), 0);
            Checks.due("20 of 20 when it has drifted by " + seed, Checks.house(two + "cries 1 20 0;").run(5, 1, 0, seed), 1);
            Checks.due("never without cries by " + seed, Checks.house(two).run(5, 1, 0, seed), 29);
            Checks.due("0 of 20 while it is held by " + seed, Checks.house(two.replace("0 0 1 ", "0 0 60 ")
                + "cries 1 20 0;").run(5, 1, 3, seed), 0);
        }
    }

    private static void theFirstThatCries() {
        String text = "body 0 0 60 240 0 0;body 0 0 60 240 0 0;body 0 0 60 240 0 0;cries 1 20 20;cries 2 20 20;" + LAST;
        LentMinds x = Checks.house(text);
        // 0, 1, 2, 1, 2, ..: always the first but the one it is with
        Checks.due("in turn", x.run(5, 1, 3, 5), 29);
        x.bed(1, true);
        Checks.due("then one is left", x.run(5, 1, 3, 5), 1);
        LentMinds y = Checks.house(text.replace("body 0 0 60 240 0 0;body 0 0 60 240 0 0;cries", "body 0 0 60 1 0 3;body 0 0 60 1 0 5;cries"));
        Checks.due("the first by number", y.run(5, 29, 1, 5), 3);
    }

    private static void noMinuteLeft() {
        LentMinds x = Checks.house("body 0 0 60 1 0 9;body 0 0 1 9 5 9;day 30;");
        x.minutes(29);
        Checks.due("one minute", x.run(0, 1, 0, 0), 5);
        x.minutes(1);
        int[] due = {0, 0, 1, 0};
        for (int rule = 0; rule <= 5; rule++) {
            for (int what = 0; what < 4; what++) {
                Checks.due("the day is over, rule " + rule, x.run(rule, 1, what, 1), due[what]);
            }
        }
        Checks.due("best", x.best(1), 0);
        Checks.due("often", x.often(4), 1);
        Checks.due("taught", x.taught(1, 8, 0, 1), 0);
        Checks.due("pays", x.pays(8, 0, 1), 1);
        LentMinds none = new LentMinds();
        for (int rule = 0; rule <= 5; rule++) {
            for (int what = 0; what < 4; what++) {
                Checks.due("no house, rule " + rule, none.run(rule, 60, what, -1), 0);
            }
        }
    }

    private static void bestOfRules() {
        String four = "body 0 0 60 240 0 0;body A;body B;body C;" + LAST;
        Checks.due("ROUND has most worth", Checks.house(four.replace("A", "0 0 60 1 0 9").replace("B", "0 0 50 1 0 1")
            .replace("C", "0 0 60 1 0 1")).best(29), 0);
        Checks.due("DUE has most worth", Checks.house(four.replace("A", "0 0 60 1 0 1").replace("B", "0 0 50 1 0 9")
            .replace("C", "0 0 60 1 0 1")).best(29), 1);
        Checks.due("HARM has most worth", Checks.house(four.replace("A", "0 0 60 1 0 1").replace("B", "0 0 50 1 0 2")
            .replace("C", "0 0 60 1 9 9")).best(29), 2);
        Checks.due("NEAR has most worth", Checks.house(four.replace("A", "15 15 60 1 0 1").replace("B", "0 0 60 1 0 9")
            .replace("C", "0 0 50 1 0 2")).best(29), 3);
        Checks.due("least harm ahead of most worth", Checks.house(four.replace("A", "0 0 60 1 0 99")
            .replace("B", "0 0 29 1 1 0").replace("C", "0 0 60 1 0 1")).best(29), 1);
        Checks.due("one alone: the first", Checks.house("body 0 0 1 1 1 1;").best(60), 0);
        Checks.due("no house", new LentMinds().best(1), -1);
        Checks.due("no house", new LentMinds().best(60), -1);
    }

    private static void oftenAtItsEnds() {
        // to be away from the first costs harm, and least if the mind leaves it least often
        Checks.due("60", Checks.house("body 0 0 1 240 99 0;body 0 0 60 240 0 0;breath 9;day 61;").often(0), 60);
        // two that hold one minute: each minute one of them
        Checks.due("1", Checks.house("body 0 0 1 240 1 0;body 0 0 1 240 1 0;breath 0;").often(0), 1);
        // by two minutes the second is done at once: a harm of 4, not 6; by three no less
        Checks.due("2", Checks.house("body 0 0 1 1 1 0;body 0 0 1 2 1 0;body 0 0 2 240 1 0;breath 1;day 30;").often(0), 2);
        for (int rule = 0; rule < 5; rule++) {
            Checks.due("alike: the least", Checks.house("body 0 0 60 9 0 0;body 0 0 60 9 0 0;").often(rule), 1);
            Checks.due("no house", new LentMinds().often(rule), 1);
        }
    }

    private static void lessonsJustBelow() {
        LentMinds x = Checks.house("body 0 0 60 240 0 0;body 0 0 1 240 1 0;habit 1 1;body 0 0 1 1 1 0;day 30;");
        // with a hold of 1, WITHOUT is above it in 28 or 29 of 30 minutes; with 60 never
        Checks.due("239 of 240", x.taught(1, 239, 0, 60), 29);
        Checks.due("1", x.taught(1, 1, 0, 60), 1);
        Checks.refusedAndStays("1 of 1", x, () -> x.taught(2, 1, 0, 60), "IllegalArgumentException");
        x.minutes(1);
        // it is done then in 1, and the second has the mind from 3 on
        Checks.due("the one with the mind has had one of 240", x.taught(0, 238, 0, 60), 27);
        Checks.refusedAndStays("and may not be taught 239", x, () -> x.taught(0, 239, 0, 60), "IllegalArgumentException");
        LentMinds done = Checks.house("body 0 0 60 1 0 0;body 0 0 60 9 0 0;");
        done.minutes(1);
        Checks.refusedAndStays("done", done, () -> done.taught(0, 1, 0, 1), "IllegalArgumentException");
        LentMinds abed = Checks.house("body 0 0 60 9 0 0;body 0 0 1 9 1 0;habit 1 1;");
        abed.bed(1, true);
        Checks.due("in bed it can be, for nothing", abed.taught(1, 8, 0, 60), 0);
    }

    private static void lessonsThatHarm() {
        // by DUE the mind goes to the one of least SLACK: taught, the second comes behind the harmless third
        LentMinds x = Checks.house("body 0 0 60 240 0 0;body 0 0 28 240 9 0;habit 1 1;body 0 0 29 240 0 0;"
            + "breath 0;day 34;");
        int plain = x.run(1, 28, 0, 0);
        Checks.due("it goes to the second in 28: no harm", plain, 0);
        Checks.due("taught two it drifts in 30 to 33", x.taught(1, 2, 1, 28), -36);
    }

    private static void whoPays() {
        LentMinds x = Checks.house("body 0 0 60 200 0 0;body 0 0 1 9 1 0;habit 1 1;body 0 0 1 9 1 0;habit 2 1;"
            + "body 0 0 1 240 1 0;habit 3 1;day 30;");
        Checks.due("alike: the first", x.pays(8, 0, 60), 1);
        Checks.due("one of 240 alone", x.pays(9, 0, 60), 3);
        Checks.due("and up to 239", x.pays(239, 0, 60), 3);
        x.bed(1, true);
        Checks.due("another", x.pays(8, 0, 60), 2);
        LentMinds harms = Checks.house("body 0 0 60 1 0 0;body 0 0 28 240 9 0;habit 1 1;body 0 0 29 2 0 0;breath 0;day 34;");
        harms.minutes(1);
        harms.bed(2, true);
        Checks.due("the only one who can, for nothing", harms.pays(2, 1, 60), 1);
        Checks.due("nobody of nobody", new LentMinds().pays(1, 0, 1), -1);
        Checks.due("nobody of nobody", new LentMinds().pays(239, 4, 60), -1);
    }

    private static void trustAtItsEnds() {
        String one = "body 0 0 9 9 0 0;cries 0 ";
        Checks.due("1 of 1", Checks.house(one + "1 0;").trust(0, 1), 1000);
        Checks.due("20 of 20", Checks.house(one + "20 0;").trust(0, 20), 1000);
        Checks.due("always, whatever else", Checks.house(one + "1 20;").trust(0, 20), 1000);
        Checks.due("1 of 381, cut", Checks.house(one + "1 20;").trust(0, 1), 2);
        Checks.due("19 of 39, cut", Checks.house(one + "1 20;").trust(0, 19), 487);
        Checks.due("20 of 400", Checks.house(one + "20 20;").trust(0, 1), 50);
        Checks.due("380 of 381, cut", Checks.house(one + "20 1;").trust(0, 19), 997);
        LentMinds none = Checks.house("body 0 0 9 9 0 0;");
        for (int d = 1; d <= 20; d++) {
            Checks.due("never cries, " + d, none.trust(0, d), -1);
        }
    }

    private static void answersAtTheirEnds() {
        LentMinds x = Checks.house("body 0 0 9 9 99 0;cries 0 1 0;body 0 0 9 9 1 0;cries 1 1 20;body 0 0 9 9 0 0;"
            + "cries 2 20 20;body 0 0 9 9 99 0;");
        Checks.due("just more", x.answer(0, 1, 60, 5939), true);
        Checks.due("as much is not more", x.answer(0, 1, 60, 5940), false);
        Checks.due("99 in one minute", x.answer(0, 20, 1, 98), true);
        Checks.due("and 99", x.answer(0, 20, 1, 99), false);
        Checks.due("the greatest cost", x.answer(0, 20, 60, 9999), false);
        Checks.due("0.002 for nothing", x.answer(1, 1, 1, 0), true);
        Checks.due("0.002 for 1", x.answer(1, 1, 1, 1), false);
        Checks.due("0.12 for 1", x.answer(1, 1, 60, 1), false);
        Checks.due("no harm for nothing", x.answer(2, 20, 60, 0), false);
        Checks.due("no trust for nothing", x.answer(3, 20, 60, 0), false);
        Checks.due("no trust at a chance of 1", x.answer(3, 1, 1, 0), false);
    }
}
