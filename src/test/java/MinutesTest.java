/** Promises 7 to 13: now, costs, pass, mind, bed, minutes, day. */
public final class MinutesTest {
    private MinutesTest() { }

    public static void main(String[] args) {
        costs();
        passing();
        drifting();
        habits();
        doneAndWorth();
        joint();
        sleep();
        beds();
        theEndOfTheDay();
        wrongInputs();
        Checks.end("MinutesTest");
    }

    private static void costs() {
        LentMinds x = Checks.house("body 0 0 9 9 0 0;body 9 0 9 9 0 0;body 5 5 9 9 0 0;body 15 15 9 9 0 0;breath 2;");
        Checks.due("9 by 10", x.costs(0, 1), 2);
        Checks.due("10 by 10", x.costs(0, 2), 3);
        Checks.due("30 by 10", x.costs(3, 0), 5);
        Checks.due("to itself", x.costs(3, 3), 0);
        Checks.noBody("costs(4, 0)", () -> x.costs(4, 0));
        Checks.noBody("costs(0, 4)", () -> x.costs(0, 4));
        Checks.noBody("costs(-1, 0)", () -> x.costs(-1, 0));
        LentMinds y = Checks.house("body 0 0 9 9 0 0;body 15 15 9 9 0 0;breath 0;stride 1;");
        Checks.due("stride 1", y.costs(0, 1), 30);
    }

    private static void passing() {
        LentMinds x = Checks.house("body 0 0 9 9 0 0;body 15 0 9 9 0 0;body 0 0 9 9 0 0;stride 15;");
        Checks.due("mind at first", x.mind(), 0);
        Checks.due("with it already", x.pass(0), -2);
        Checks.due("no pass", x.day(3), 0);
        Checks.due("two minutes", x.pass(1), 2);
        Checks.due("on its way", x.mind(), 201);
        Checks.due("on its way already", x.pass(1), -1);
        Checks.due("and to another", x.pass(0), -1);
        x.minutes(1);
        Checks.due("half way", x.mind(), 101);
        Checks.due("nobody has it", x.now(0, 1) + x.now(1, 1), 0);
        x.minutes(1);
        Checks.due("there", x.mind(), 1);
        Checks.due("WITHOUT to the end of the way", x.now(1, 0), 2);
        x.minutes(1);
        Checks.due("WITHOUT with it", x.now(1, 0), 0);
        Checks.due("DID with it", x.now(1, 1), 1);
        Checks.due("passes", x.day(3), 1);
        Checks.noBody("pass(3)", () -> x.pass(3));
        LentMinds y = Checks.house("body 0 0 9 9 0 0;body 3 3 9 9 0 0;breath 0;");
        Checks.due("at once", y.pass(1), 0);
        Checks.due("it is there", y.mind(), 1);
        Checks.due("a pass all the same", y.day(3), 1);
    }

    private static void drifting() {
        LentMinds x = Checks.house("body 0 0 9 99 7 0;body 0 0 2 99 5 0;body 0 0 3 99 0 0;");
        Checks.due("two minutes without", x.minutes(2), 0);
        Checks.due("SLACK 0", x.now(1, 3), 0);
        Checks.due("not drifted", x.now(1, 7), 0);
        Checks.due("the third", x.minutes(1), 5);
        Checks.due("drifted", x.now(1, 7), 1);
        Checks.due("SLACK -1", x.now(1, 3), -1);
        Checks.due("the fourth and fifth", x.minutes(2), 10);
        Checks.due("drifted without harm", x.now(2, 7), 1);
        Checks.due("all harm", x.day(0), 15);
        Checks.due("the one with the mind", x.now(0, 0), 0);
    }

    private static void habits() {
        LentMinds x = Checks.house("body 0 0 59 240 0 0;habit 0 2;body 0 0 3 9 1 0;");
        x.minutes(1);
        Checks.due("half a habit", x.now(0, 2), 59);
        x.minutes(1);
        Checks.due("one more", x.now(0, 2), 60);
        x.minutes(2);
        Checks.due("60 at most", x.now(0, 2), 60);
        Checks.due("without a habit", x.now(1, 2), 3);
    }

    private static void doneAndWorth() {
        LentMinds x = Checks.house("body 0 0 1 3 9 42;body 0 0 60 1 0 7;breath 0;");
        x.minutes(2);
        Checks.due("not yet", x.now(0, 4), 0);
        Checks.due("no worth yet", x.day(1), 0);
        x.minutes(1);
        Checks.due("done", x.now(0, 4), 1);
        Checks.due("its worth", x.day(1), 42);
        x.minutes(5);
        Checks.due("DID stays", x.now(0, 1), 3);
        x.pass(1);
        x.minutes(9);
        Checks.due("what is done does not drift", x.day(0), 0);
        Checks.due("nor WITHOUT", x.now(0, 0), 0);
        Checks.due("both worths", x.day(1), 49);
        Checks.due("both done", x.day(2), 2);
    }

    private static void joint() {
        LentMinds x = Checks.house("body 0 0 1 2 9 1;body 0 0 1 4 9 2;joint 1 0;body 0 0 3 9 0 0;");
        x.minutes(1);
        Checks.due("with it, too", x.now(1, 1), 1);
        Checks.due("its WITHOUT", x.now(1, 0), 0);
        x.minutes(3);
        Checks.due("one is done, the other goes on", x.now(1, 1), 4);
        Checks.due("both done", x.day(2), 2);
        Checks.due("both worths", x.day(1), 3);
        Checks.due("no harm", x.day(0), 0);
        x.pass(2);
        LentMinds y = Checks.house("body 0 0 9 9 0 0;body 0 0 9 9 0 0;joint 0 1;sleep 0 0 4;");
        y.minutes(2);
        Checks.due("one sleeps, the other has the mind", y.now(1, 1), 2);
        Checks.due("the one that sleeps", y.now(0, 1), 0);
    }

    private static void sleep() {
        LentMinds x = Checks.house("body 0 0 9 9 0 0;body 0 0 1 9 1 0;sleep 1 1 3;sleep 0 2 2;");
        x.minutes(1);
        Checks.due("awake in 0", x.now(1, 0), 1);
        Checks.due("asleep in 1", x.now(1, 6), 1);
        Checks.due("harm in sleep", x.minutes(3), 0);
        Checks.due("WITHOUT stays", x.now(1, 0), 1);
        Checks.due("no mind in sleep", x.now(0, 1), 3);
        Checks.due("awake in 4", x.now(1, 6), 0);
        Checks.due("drifts then", x.minutes(1), 1);
    }

    private static void beds() {
        LentMinds x = Checks.house("body 0 0 9 9 0 0;body 0 0 1 9 1 0;");
        Checks.due("three minutes", x.minutes(3), 2);
        Checks.due("was it in bed", x.bed(1, true), false);
        Checks.due("WITHOUT in bed", x.now(1, 0), 0);
        Checks.due("in bed", x.now(1, 5), 1);
        Checks.due("again", x.bed(1, true), true);
        Checks.due("one in bed", x.count(3), 1);
        Checks.due("nothing happens in bed", x.minutes(9), 0);
        Checks.due("WITHOUT still", x.now(1, 0), 0);
        Checks.due("out of it", x.bed(1, false), true);
        Checks.due("none in bed", x.count(3), 0);
        x.minutes(2);
        Checks.due("drifted again", x.now(1, 7), 1);
        Checks.due("out, though not in", x.bed(1, false), false);
        Checks.due("WITHOUT in each case", x.now(1, 0), 0);
        x.bed(0, true);
        int did = x.now(0, 1);
        x.minutes(1);
        Checks.due("no mind in bed", x.now(0, 1), did);
        Checks.noBody("bed(2, true)", () -> x.bed(2, true));
        Checks.noBody("bed(-1, false)", () -> x.bed(-1, false));
    }

    private static void theEndOfTheDay() {
        LentMinds x = Checks.house("body 0 0 9 240 0 0;body 0 0 10 9 2 0;day 30;");
        Checks.due("minutes to the end", x.minutes(480), 40);
        Checks.due("NOW", x.count(0), 30);
        Checks.due("the day is over", Checks.tried(() -> x.minutes(1)), "IllegalStateException");
        Checks.refused("minutes(0) then", () -> x.minutes(0));
        Checks.due("a pass then", x.pass(1), 1);
        LentMinds y = new LentMinds();
        Checks.due("no house", Checks.tried(() -> y.minutes(1)), "IllegalStateException");
    }

    private static void wrongInputs() {
        LentMinds x = Checks.house("body 0 0 9 9 0 0;");
        Checks.refused("minutes(0)", () -> x.minutes(0));
        Checks.refused("minutes(481)", () -> x.minutes(481));
        Checks.refused("day(4)", () -> x.day(4));
        Checks.refused("day(-1)", () -> x.day(-1));
        Checks.refused("now(0, 8)", () -> x.now(0, 8));
        Checks.refused("now(0, -1)", () -> x.now(0, -1));
        Checks.noBody("now(1, 0)", () -> x.now(1, 0));
        Checks.noBody("now(1, 8)", () -> x.now(1, 8));
        Checks.due("NOW stays", x.count(0), 0);
    }
}
