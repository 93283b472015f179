/** Promises 14 to 16 at their edges: which passings come, which are lost, which is late. */
public final class PassingEdgesTest {
    private static final String TWO = "body 0 0 60 240 0 0;body 0 0 60 240 0 0;day 30;";

    private PassingEdgesTest() { }

    public static void main(String[] args) {
        thirtyAndOneMore();
        clearing();
        firstAndLastMinute();
        nowIsNotLost();
        theLastOfTheDay();
        toTheOneItIsWith();
        onItsWay();
        inTheOrderTold();
        lateOrNot();
        lateIsNotLost();
        theFirstOfTheLate();
        neverLate();
        judgedWithoutAnything();
        Checks.end("PassingEdgesTest");
    }

    private static void judged(String what, LentMinds x, int harm, int worth, int late, int lost) {
        Checks.due(what + ": harm", x.judge(0), harm);
        Checks.due(what + ": worth", x.judge(1), worth);
        Checks.due(what + ": late", x.judge(2), late);
        Checks.due(what + ": lost", x.judge(3), lost);
    }

    private static void thirtyAndOneMore() {
        LentMinds x = Checks.house(TWO);
        for (int i = 1; i <= 30; i++) {
            Checks.due("passing " + i, x.passing(i - 1, i % 2), i);
        }
        String before = Checks.picture(x);
        Checks.due("passing 31", x.passing(29, 0), -1);
        Checks.due("and again", x.passing(0, 1), -1);
        Checks.due("nothing has changed", Checks.picture(x), before);
        Checks.refusedAndStays("a wrong minute, with 30", x, () -> x.passing(480, 0), "IllegalArgumentException");
        Checks.refusedAndStays("a wrong body, with 30", x, () -> x.passing(0, 2), "NoSuchElementException");
    }

    private static void clearing() {
        LentMinds x = Checks.house(TWO);
        Checks.due("none", x.clear(), 0);
        x.passing(0, 1);
        Checks.due("one", x.clear(), 1);
        for (int i = 0; i < 30; i++) {
            x.passing(0, 1);
        }
        Checks.due("thirty", x.clear(), 30);
        Checks.due("all are gone", x.count(1), 0);
        Checks.due("and again", x.clear(), 0);
        Checks.due("anew", x.passing(479, 1), 1);
        Checks.due("without a house", new LentMinds().clear(), 0);
    }

    private static void firstAndLastMinute() {
        LentMinds x = Checks.house("body 0 0 60 240 1 0;body 0 0 60 240 0 7;breath 0;");
        x.passing(0, 1);
        judged("from the first minute on", x, 480 - 60, 7, -1, 0);
        LentMinds y = Checks.house("body 0 0 60 240 0 0;body 0 0 60 1 1 7;breath 0;");
        y.passing(479, 1);
        judged("in the last minute", y, 479 - 60, 7, 0, 0);
    }

    private static void nowIsNotLost() {
        LentMinds x = Checks.house(TWO);
        x.passing(4, 1);
        x.passing(5, 1);
        x.passing(6, 1);
        int[] lost = {0, 0, 0, 0, 0, 1, 2, 3};
        for (int minute = 0; minute < lost.length; minute++) {
            Checks.due("lost from " + minute + " on", x.judge(3), lost[minute]);
            x.minutes(1);
        }
    }

    private static void theLastOfTheDay() {
        LentMinds x = Checks.house("body 0 0 60 240 0 0;body 0 0 60 1 0 7;breath 0;day 30;");
        x.passing(30, 1);
        judged("behind the day it does not come", x, 0, 0, -1, 0);
        x.passing(479, 1);
        judged("nor is it lost", x, 0, 0, -1, 0);
        x.passing(29, 1);
        judged("in the last minute it comes", x, 0, 7, -1, 0);
        x.minutes(29);
        judged("from there on, too", x, 0, 7, -1, 0);
        x.minutes(1);
        judged("when the day is over, what is ahead of NOW is lost", x, 0, 0, -1, 1);
    }

    private static void toTheOneItIsWith() {
        LentMinds x = Checks.house("body 0 0 60 240 0 0;body 0 0 1 240 1 0;day 30;");
        x.passing(5, 0);
        x.passing(5, 0);
        judged("nothing, and not lost", x, 28 + 1, 0, -1, 0);
        x.passing(5, 1);
        judged("it does not keep the next one from coming", x, 5, 0, 2, 0);
    }

    private static void onItsWay() {
        LentMinds x = Checks.house("body 0 0 60 240 0 0;body 0 0 60 240 0 0;body 0 0 60 240 0 0;breath 3;day 30;");
        x.passing(5, 1);
        for (int minute = 5; minute < 9; minute++) {
            x.passing(minute, 1);
        }
        judged("to the one it goes to: lost within its three minutes", x, 0, 0, -1, 3);
        x.clear();
        x.pass(1);
        x.passing(0, 2);
        x.passing(2, 2);
        judged("on its way from the first", x, 0, 0, -1, 2);
        x.passing(3, 2);
        x.passing(5, 0);
        x.passing(6, 0);
        judged("there in 3", x, 0, 0, -1, 3);
    }

    private static void inTheOrderTold() {
        LentMinds x = Checks.house("body 0 0 60 240 0 0;body 0 0 60 1 0 5;body 0 0 60 1 0 7;breath 0;day 30;");
        x.passing(29, 1);
        x.passing(29, 2);
        judged("the last told is where it stays", x, 0, 7, -1, 0);
        x.clear();
        x.passing(29, 2);
        x.passing(29, 1);
        judged("the other way round", x, 0, 5, -1, 0);
        LentMinds y = Checks.house("body 0 0 60 240 0 0;body 0 0 60 1 0 5;body 0 0 60 1 0 7;day 30;");
        y.passing(28, 1);
        y.passing(28, 2);
        judged("with a breath the first told is", y, 0, 5, -1, 1);
    }

    private static void lateOrNot() {
        for (int minute = 3; minute <= 7; minute++) {
            LentMinds x = Checks.house("body 0 0 60 240 0 0;body 0 0 5 240 1 0;day 30;");
            x.passing(minute, 1);
            // ahead of minute m it has m WITHOUT
            Checks.due("in " + minute, x.judge(2), minute > 5 ? 0 : -1);
        }
        LentMinds asleep = Checks.house("body 0 0 60 240 0 0;body 0 0 5 240 1 0;sleep 1 6 20;day 30;");
        asleep.passing(7, 1);
        Checks.due("one that has drifted and sleeps", asleep.judge(2), 0);
        LentMinds habit = Checks.house("body 0 0 60 240 0 0;body 0 0 1 240 1 0;habit 1 1;breath 0;day 30;");
        habit.passing(0, 1);
        habit.passing(2, 0);
        habit.passing(5, 1);
        Checks.due("its hold grows, too", habit.judge(2), -1);
    }

    private static void lateIsNotLost() {
        LentMinds x = Checks.house("body 0 0 60 240 0 0;body 0 0 60 240 0 0;body 0 0 2 240 1 0;breath 3;day 30;");
        x.passing(4, 1);
        x.passing(5, 2);
        judged("a lost one is not late", x, 28, 0, -1, 1);
        x.passing(7, 2);
        judged("the next one is", x, 8, 0, 2, 1);
        x.minutes(6);
        judged("nor is one ahead of NOW", x, 4, 0, 2, 2);
    }

    private static void theFirstOfTheLate() {
        LentMinds x = Checks.house("body 0 0 60 240 0 0;body 0 0 2 240 0 0;body 0 0 2 240 0 0;breath 0;day 30;");
        for (int i = 0; i < 27; i++) {
            x.passing(29, 0);
        }
        x.passing(20, 2);
        x.passing(10, 1);
        x.passing(10, 2);
        Checks.due("the first in time, of one minute the first told", x.judge(2), 28);
        x.clear();
        for (int i = 0; i < 29; i++) {
            x.passing(29, 0);
        }
        x.passing(28, 1);
        Checks.due("the greatest number", x.judge(2), 29);
    }

    private static void neverLate() {
        LentMinds abed = Checks.house("body 0 0 60 240 0 0;body 0 0 1 240 1 0;day 30;");
        abed.bed(1, true);
        abed.passing(20, 1);
        Checks.due("in bed", abed.judge(2), -1);
        LentMinds done = Checks.house("body 0 0 1 1 1 0;body 0 0 60 240 1 0;breath 0;day 30;");
        done.passing(1, 1);
        done.passing(20, 0);
        Checks.due("done", done.judge(2), -1);
        LentMinds same = Checks.house("body 0 0 1 240 1 0;sleep 0 5 20;body 0 0 60 240 0 0;breath 0;day 30;");
        same.minutes(1);
        same.pass(1);
        same.minutes(4);
        same.pass(0);
        Checks.due("it has drifted", same.now(0, 7), 1);
        same.passing(6, 0);
        Checks.due("but the mind is with it", same.judge(2), -1);
    }

    private static void judgedWithoutAnything() {
        judged("without a house", new LentMinds(), 0, 0, -1, 0);
        LentMinds x = Checks.house("body 0 0 60 1 1 9;body 0 0 1 240 1 0;day 30;");
        judged("without passings", x, 29, 9, -1, 0);
        x.minutes(10);
        judged("from NOW on", x, 20, 0, -1, 0);
        x.minutes(20);
        judged("when the day is over", x, 0, 0, -1, 0);
    }
}
