/** Promises 14 to 16: passing, clear, judge. */
public final class PassingsTest {
    private PassingsTest() { }

    public static void main(String[] args) {
        thirty();
        judged();
        lostOnes();
        late();
        fromNowOn();
        Checks.end("PassingsTest");
    }

    private static void thirty() {
        LentMinds x = Checks.house("body 0 0 9 9 0 0;body 0 0 9 9 0 0;day 30;");
        Checks.refused("passing(-1, 0)", () -> x.passing(-1, 0));
        Checks.refused("passing(480, 0)", () -> x.passing(480, 0));
        Checks.noBody("passing(0, 2)", () -> x.passing(0, 2));
        Checks.noBody("passing(480, 2)", () -> x.passing(480, 2));
        for (int i = 1; i <= 30; i++) {
            Checks.due("passing " + i, x.passing(479, i % 2), i);
        }
        Checks.due("passing 31", x.passing(0, 0), -1);
        Checks.refused("a wrong one, though there are 30", () -> x.passing(480, 0));
        Checks.due("count(1)", x.count(1), 30);
        Checks.due("clear()", x.clear(), 30);
        Checks.due("clear() again", x.clear(), 0);
        Checks.refused("judge(4)", () -> x.judge(4));
        Checks.refused("judge(-1)", () -> x.judge(-1));
    }

    private static void due(String what, LentMinds x, int harm, int worth, int late, int lost) {
        Checks.due(what + ": harm", x.judge(0), harm);
        Checks.due(what + ": worth", x.judge(1), worth);
        Checks.due(what + ": late", x.judge(2), late);
        Checks.due(what + ": lost", x.judge(3), lost);
    }

    private static void judged() {
        LentMinds x = Checks.house("body 0 0 60 2 1 5;body 0 0 60 3 1 6;body 0 0 20 240 1 7;day 30;");
        due("no passings", x, 10, 5, -1, 0);
        x.passing(2, 1);
        x.passing(6, 2);
        due("one by one", x, 0, 11, -1, 0);
        x.passing(29, 0);
        x.passing(30, 0);
        x.passing(479, 1);
        due("behind the day nothing is lost", x, 0, 11, -1, 0);
        Checks.due("nothing has changed", x.count(0) + x.mind() + x.day(0) + x.day(3), 0);
    }

    private static void lostOnes() {
        LentMinds x = Checks.house("body 0 0 60 240 1 5;body 0 0 60 240 1 6;body 15 15 60 240 1 7;day 30;");
        x.passing(5, 2);
        x.passing(5, 1);
        x.passing(8, 0);
        x.passing(9, 2);
        x.passing(9, 2);
        due("on its way for four minutes", x, 0, 0, -1, 2);
        LentMinds y = Checks.house("body 0 0 60 240 1 5;body 0 0 60 1 1 6;body 0 0 60 1 1 7;breath 0;day 30;");
        y.passing(5, 1);
        y.passing(5, 2);
        y.passing(5, 2);
        due("both at once, the last counts", y, 0, 7, -1, 0);
    }

    private static void late() {
        LentMinds x = Checks.house("body 0 0 60 240 0 0;body 0 0 2 240 1 0;body 0 0 4 240 1 0;day 30;");
        x.passing(9, 1);
        x.passing(5, 2);
        due("the first in time", x, 8 + 2 + 17, 0, 1, 0);
        x.clear();
        x.passing(2, 1);
        Checks.due("SLACK 0 is not late", x.judge(2), -1);
        x.clear();
        x.passing(3, 1);
        Checks.due("SLACK -1 is late", x.judge(2), 0);
        x.bed(1, true);
        Checks.due("in bed it is not", x.judge(2), -1);
    }

    private static void fromNowOn() {
        LentMinds x = Checks.house("body 0 0 60 2 1 5;body 0 0 2 3 1 6;day 30;");
        x.passing(3, 1);
        x.passing(4, 1);
        x.minutes(4);
        due("what is behind NOW is lost", x, 1, 6, 1, 1);
        x.pass(1);
        due("on its way now", x, 1, 6, -1, 2);
        x.minutes(480);
        due("at the end of the day", x, 0, 0, -1, 2);
        x.passing(30, 0);
        due("behind the day", x, 0, 0, -1, 2);
    }
}
