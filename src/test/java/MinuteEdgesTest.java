/** Promises 7 to 13 at their edges: what a minute, a pass, a bed and the end of the day do just at them. */
public final class MinuteEdgesTest {
    private MinuteEdgesTest() { }

    public static void main(String[] args) {
        atFirst();
        leastAndGreatestCosts();
        cutWays();
        atOnce();
        theLongestWay();
        theLastMinuteOfTheWay();
        refusedPasses();
        passesToAnyBody();
        wayBehindTheDay();
        heldAndDrifted();
        leastAndGreatestNeeds();
        greatestHarmAndWorth();
        habitsAreCut();
        sixtyAtMost();
        sleepsBothToo();
        sleepsAllDay();
        jointButForOne();
        jointOnTheWay();
        inBedInEachCase();
        bedOfOneThatIsDone();
        nineInBed();
        oneMinuteAndAllOfThem();
        theShortestDay();
        overIsOver();
        noHouse();
        Checks.end("MinuteEdgesTest");
    }

    private static void nowIs(String what, LentMinds x, int body, int... due) {
        for (int i = 0; i < due.length; i++) {
            Checks.due(what + ": now(" + body + ", " + i + ")", x.now(body, i), due[i]);
        }
    }

    private static void atFirst() {
        LentMinds x = Checks.house("body 1 2 3 4 5 6;body 0 0 60 240 99 99;");
        Checks.due("NOW", x.count(0), 0);
        Checks.due("the mind", x.mind(), 0);
        nowIs("the first", x, 0, 0, 0, 3, 3, 0, 0, 0, 0);
        nowIs("the second", x, 1, 0, 0, 60, 60, 0, 0, 0, 0);
        for (int what = 0; what < 4; what++) {
            Checks.due("day(" + what + ")", x.day(what), 0);
        }
    }

    private static void leastAndGreatestCosts() {
        LentMinds least = Checks.house("body 7 7 9 9 0 0;body 7 7 9 9 0 0;breath 0;stride 1;");
        Checks.due("at one place, for nothing", least.costs(0, 1), 0);
        LentMinds breath = Checks.house("body 7 7 9 9 0 0;body 7 7 9 9 0 0;breath 9;");
        Checks.due("at one place, a breath", breath.costs(1, 0), 9);
        Checks.due("to itself nothing", breath.costs(1, 1), 0);
        LentMinds most = Checks.house("body 15 0 9 9 0 0;body 0 15 9 9 0 0;breath 9;stride 1;");
        Checks.due("the farthest", most.costs(0, 1), 39);
        Checks.due("and back", most.costs(1, 0), 39);
        Checks.due("by the longest stride", Checks.house("body 0 0 9 9 0 0;body 15 15 9 9 0 0;breath 0;stride 30;")
            .costs(0, 1), 1);
    }

    private static void cutWays() {
        LentMinds x = Checks.house("body 3 9 9 9 0 0;body 5 4 9 9 0 0;body 4 3 9 9 0 0;body 4 2 9 9 0 0;stride 7;breath 0;");
        Checks.due("7 by 7", x.costs(0, 1), 1);
        Checks.due("2 by 7", x.costs(1, 2), 0);
        Checks.due("7 by 7 the other way", x.costs(2, 0), 1);
        Checks.due("8 by 7", x.costs(0, 3), 1);
        LentMinds y = Checks.house("body 3 9 9 9 0 0;body 5 4 9 9 0 0;stride 8;breath 0;");
        Checks.due("7 by 8", y.costs(0, 1), 0);
        LentMinds z = Checks.house("body 3 9 9 9 0 0;body 5 4 9 9 0 0;stride 3;breath 2;");
        Checks.due("7 by 3, and 2", z.costs(1, 0), 4);
    }

    private static void atOnce() {
        LentMinds x = Checks.house("body 0 0 9 9 0 0;body 0 9 9 9 0 0;breath 0;");
        Checks.due("pass(1)", x.pass(1), 0);
        Checks.due("it is there", x.mind(), 1);
        Checks.due("with it", x.pass(1), -2);
        Checks.due("and back in the same minute", x.pass(0), 0);
        Checks.due("passes", x.day(3), 2);
        Checks.due("NOW", x.count(0), 0);
    }

    private static void theLongestWay() {
        String far = "body 0 0 60 240 1 0;" + "body 0 0 60 240 1 0;".repeat(7) + "body 15 15 60 240 1 0;breath 9;stride 1;";
        LentMinds x = Checks.house(far);
        Checks.due("pass(8)", x.pass(8), 39);
        Checks.due("mind()", x.mind(), 3908);
        x.minutes(38);
        Checks.due("one minute is left", x.mind(), 108);
        Checks.due("without it", x.now(8, 0), 38);
        x.minutes(1);
        Checks.due("there", x.mind(), 8);
        Checks.due("not yet with it", x.now(8, 1), 0);
        x.minutes(1);
        nowIs("with it", x, 8, 0, 1);
    }

    private static void theLastMinuteOfTheWay() {
        LentMinds x = Checks.house("body 0 0 9 9 0 0;body 0 0 9 9 0 0;");
        Checks.due("pass(1)", x.pass(1), 1);
        Checks.due("one minute", x.mind(), 101);
        Checks.due("pass(0) within it", x.pass(0), -1);
        Checks.due("pass(1) within it", x.pass(1), -1);
        x.minutes(1);
        nowIs("the one it left", x, 0, 1, 0);
        nowIs("the one it goes to", x, 1, 1, 0);
        Checks.due("pass(1) there", x.pass(1), -2);
        Checks.due("pass(0) there", x.pass(0), 1);
    }

    private static void refusedPasses() {
        LentMinds x = Checks.house("body 0 0 9 9 0 0;body 0 0 9 9 0 0;breath 3;");
        String first = Checks.picture(x);
        Checks.due("to the one it is with", x.pass(0), -2);
        Checks.due("nothing has changed", Checks.picture(x), first);
        x.pass(1);
        x.minutes(1);
        String onTheWay = Checks.picture(x);
        Checks.due("to the one it left", x.pass(0), -1);
        Checks.due("to the one it goes to", x.pass(1), -1);
        Checks.due("nothing has changed", Checks.picture(x), onTheWay);
        Checks.due("one pass", x.day(3), 1);
    }

    private static void passesToAnyBody() {
        LentMinds x = Checks.house("body 0 0 9 1 0 0;body 0 0 9 9 0 0;body 0 0 9 9 0 0;sleep 2 0 479;breath 0;");
        x.minutes(1);
        x.bed(1, true);
        Checks.due("to one in bed", x.pass(1), 0);
        Checks.due("to one asleep", x.pass(2), 0);
        Checks.due("to one that is done", x.pass(0), 0);
        Checks.due("passes", x.day(3), 3);
        x.minutes(1);
        Checks.due("nobody did more", x.now(0, 1) + x.now(1, 1) + x.now(2, 1), 1);
    }

    private static void wayBehindTheDay() {
        LentMinds x = Checks.house("body 0 0 9 9 0 0;body 15 15 9 9 0 0;breath 9;stride 1;day 30;");
        x.pass(1);
        x.minutes(30);
        Checks.due("nine are left", x.mind(), 901);
        Checks.due("still on its way", x.pass(0), -1);
        LentMinds y = Checks.house("body 0 0 9 9 0 0;body 15 15 9 9 0 0;breath 9;stride 1;day 30;");
        y.minutes(30);
        Checks.due("a pass when the day is over", y.pass(1), 39);
        Checks.due("it counts", y.day(3), 1);
        Checks.due("and has begun", y.mind(), 3901);
    }

    private static void heldAndDrifted() {
        LentMinds x = Checks.house("body 0 0 60 240 0 0;body 0 0 1 9 7 0;body 0 0 60 9 9 0;");
        Checks.due("as long as the least hold", x.minutes(1), 0);
        nowIs("just held", x, 1, 1, 0, 1, 0, 0, 0, 0, 0);
        Checks.due("one more", x.minutes(1), 7);
        nowIs("just drifted", x, 1, 2, 0, 1, -1, 0, 0, 0, 1);
        Checks.due("as long as the greatest hold", x.minutes(58), 58 * 7);
        nowIs("just held", x, 2, 60, 0, 60, 0, 0, 0, 0, 0);
        Checks.due("one more", x.minutes(1), 7 + 9);
        nowIs("just drifted", x, 2, 61, 0, 60, -1, 0, 0, 0, 1);
        x.pass(1);
        Checks.due("harm on the way", x.minutes(1), 7 + 9);
        Checks.due("none of the one with the mind", x.minutes(1), 9);
        nowIs("no more drifted", x, 1, 0, 1, 1, 1, 0, 0, 0, 0);
    }

    private static void leastAndGreatestNeeds() {
        LentMinds x = Checks.house("body 0 0 60 1 0 5;body 0 0 60 240 0 9;breath 0;");
        x.minutes(1);
        nowIs("done in one minute", x, 0, 0, 1, 60, 60, 1, 0, 0, 0);
        x.pass(1);
        x.minutes(239);
        Checks.due("one less than it needs", x.now(1, 4) + x.day(2) + x.day(1), 1 + 5);
        x.minutes(1);
        nowIs("done in 240", x, 1, 0, 240, 60, 60, 1, 0, 0, 0);
        Checks.due("both", x.day(2), 2);
        Checks.due("their worth", x.day(1), 14);
        x.minutes(9);
        Checks.due("no more than it needs", x.now(1, 1), 240);
        Checks.due("its worth once", x.day(1), 14);
    }

    private static void greatestHarmAndWorth() {
        LentMinds x = Checks.house("body 0 0 1 240 99 99;".repeat(9));
        Checks.due("a day", x.minutes(480), 8 * 99 * 479);
        Checks.due("all harm", x.day(0), 8 * 99 * 479);
        nowIs("never had it", x, 8, 480, 0, 1, -479, 0, 0, 0, 1);
        LentMinds y = Checks.house("body 0 0 60 1 99 99;".repeat(9) + "breath 0;");
        for (int b = 0; b < 9; b++) {
            y.pass(b);
            Checks.due("a minute each", y.minutes(1), 0);
            Checks.due("worth", y.day(1), 99 * (b + 1));
            Checks.due("done", y.day(2), b + 1);
        }
        Checks.due("passes", y.day(3), 8);
    }

    private static void habitsAreCut() {
        LentMinds x = Checks.house("body 0 0 1 240 0 0;habit 0 60;");
        x.minutes(59);
        Checks.due("59 by 60", x.now(0, 2), 1);
        x.minutes(1);
        Checks.due("60 by 60", x.now(0, 2), 2);
        x.minutes(59);
        Checks.due("119 by 60", x.now(0, 2), 2);
        x.minutes(1);
        Checks.due("120 by 60", x.now(0, 2), 3);
        LentMinds y = Checks.house("body 0 0 1 240 0 0;habit 0 1;body 0 0 1 240 0 0;");
        y.minutes(7);
        Checks.due("7 by 1", y.now(0, 2), 8);
        Checks.due("SLACK by habit", y.now(0, 3), 8);
        Checks.due("never without a habit", y.now(1, 2), 1);
    }

    private static void sixtyAtMost() {
        LentMinds x = Checks.house("body 0 0 58 240 0 0;habit 0 1;body 0 0 60 240 0 0;habit 1 1;joint 0 1;body 0 0 1 9 0 0;");
        int[] holds = {58, 59, 60, 60, 60};
        for (int minute = 0; minute < holds.length; minute++) {
            Checks.due("hold behind " + minute, x.now(0, 2), holds[minute]);
            Checks.due("60 stays", x.now(1, 2), 60);
            x.minutes(1);
        }
        x.pass(2);
        x.minutes(61);
        Checks.due("it drifts as one that holds 60", x.now(0, 3), -1);
    }

    private static void sleepsBothToo() {
        LentMinds x = Checks.house("body 0 0 60 240 0 0;body 0 0 1 9 5 0;sleep 1 2 3;sleep 0 3 3;");
        int[] asleep = {0, 0, 1, 1, 0};
        int[] harm = {0, 5, 0, 0, 5};
        int[] without = {1, 2, 2, 2, 3};
        int[] did = {1, 2, 3, 3, 4};
        for (int minute = 0; minute < 5; minute++) {
            Checks.due("asleep in " + minute, x.now(1, 6), asleep[minute]);
            Checks.due("harm in " + minute, x.minutes(1), harm[minute]);
            Checks.due("WITHOUT behind " + minute, x.now(1, 0), without[minute]);
            Checks.due("DID behind " + minute, x.now(0, 1), did[minute]);
            Checks.due("drifted, asleep or not, behind " + minute, x.now(1, 7), minute > 0 ? 1 : 0);
        }
    }

    private static void sleepsAllDay() {
        LentMinds x = Checks.house("body 0 0 1 1 9 9;sleep 0 0 479;body 0 0 1 1 9 9;sleep 1 0 479;");
        Checks.due("nothing all day", x.minutes(480), 0);
        nowIs("with the mind", x, 0, 0, 0, 1, 1, 0, 0);
        nowIs("without it", x, 1, 0, 0, 1, 1, 0, 0);
        Checks.due("behind its last minute it is awake", x.now(0, 6), 0);
    }

    private static void jointButForOne() {
        String joint = "body 0 0 1 2 5 1;body 0 0 1 9 7 2;joint 0 1;body 0 0 60 9 0 0;breath 0;";
        LentMinds abed = Checks.house(joint);
        abed.bed(0, true);
        abed.minutes(3);
        Checks.due("the mind's own is in bed", abed.now(0, 1), 0);
        Checks.due("the joint one has it", abed.now(1, 1), 3);
        LentMinds other = Checks.house(joint);
        other.bed(1, true);
        other.minutes(1);
        Checks.due("the joint one is in bed", other.now(1, 1), 0);
        Checks.due("the mind's own has it", other.now(0, 1), 1);
        LentMinds done = Checks.house(joint);
        Checks.due("one is done, the other goes on", done.minutes(5), 0);
        Checks.due("its DID", done.now(1, 1), 5);
        LentMinds asleep = Checks.house(joint + "sleep 1 0 1;");
        Checks.due("the joint one sleeps", asleep.minutes(2), 0);
        Checks.due("its DID", asleep.now(1, 1), 0);
        asleep.minutes(1);
        Checks.due("awake it has the mind of one that is done", asleep.now(1, 1), 1);
        LentMinds back = Checks.house(joint);
        back.pass(1);
        back.minutes(1);
        Checks.due("the other way round", back.now(0, 1) + back.now(1, 1), 2);
        LentMinds away = Checks.house(joint);
        away.pass(2);
        Checks.due("with a third both drift", away.minutes(2), 5 + 7);
    }

    private static void jointOnTheWay() {
        LentMinds x = Checks.house("body 0 0 1 9 5 1;body 0 0 1 9 7 2;joint 0 1;");
        Checks.due("to the joint one", x.pass(1), 1);
        x.minutes(1);
        Checks.due("on the way neither has it", x.now(0, 1) + x.now(1, 1), 0);
        Checks.due("both are without", x.now(0, 0) + x.now(1, 0), 2);
        x.minutes(1);
        Checks.due("there both have it", x.now(0, 1) + x.now(1, 1), 2);
    }

    private static void inBedInEachCase() {
        for (int way = 0; way < 4; way++) {
            boolean was = way % 2 == 1;
            boolean is = way / 2 == 1;
            LentMinds x = Checks.house("body 0 0 60 240 0 0;body 0 0 1 9 3 0;");
            x.bed(1, was);
            x.minutes(2);
            int harm = x.day(0);
            Checks.due("harm, was " + was, harm, was ? 0 : 3);
            Checks.due("bed(1, " + is + "), was " + was, x.bed(1, is), was);
            nowIs("was " + was + ", is " + is, x, 1, 0, 0, 1, 1, 0, is ? 1 : 0, 0, 0);
            Checks.due("in bed", x.count(3), is ? 1 : 0);
            Checks.due("two minutes more", x.minutes(2), is ? 0 : 3);
        }
    }

    private static void bedOfOneThatIsDone() {
        LentMinds x = Checks.house("body 0 0 1 1 9 9;body 0 0 60 9 0 0;");
        x.minutes(1);
        Checks.due("to bed", x.bed(0, true), false);
        nowIs("done and in bed", x, 0, 0, 1, 1, 1, 1, 1, 0, 0);
        Checks.due("out of it", x.bed(0, false), true);
        nowIs("done", x, 0, 0, 1, 1, 1, 1, 0, 0, 0);
        Checks.due("no more harm", x.minutes(9), 0);
    }

    private static void nineInBed() {
        LentMinds x = Checks.house("body 0 0 1 9 9 9;".repeat(9));
        for (int b = 0; b < 9; b++) {
            Checks.due("bed(" + b + ", true)", x.bed(b, true), false);
            Checks.due("in bed", x.count(3), b + 1);
        }
        Checks.due("nothing can happen", x.minutes(480), 0);
        Checks.due("nothing did", x.day(1) + x.day(2) + x.now(0, 1) + x.now(8, 0), 0);
    }

    private static void oneMinuteAndAllOfThem() {
        LentMinds x = Checks.house("body 0 0 60 240 0 0;body 0 0 1 9 1 0;");
        Checks.due("one", x.minutes(1), 0);
        Checks.due("NOW", x.count(0), 1);
        Checks.due("all", x.minutes(480), 479);
        Checks.due("NOW", x.count(0), 480);
        LentMinds y = Checks.house("body 0 0 60 240 0 0;body 0 0 1 9 1 0;");
        Checks.due("all but one", y.minutes(479), 478);
        Checks.due("NOW", y.count(0), 479);
        Checks.due("the last", y.minutes(1), 1);
        Checks.noState("one more", () -> y.minutes(1));
    }

    private static void theShortestDay() {
        for (int n : new int[] {29, 30, 31, 480}) {
            LentMinds x = Checks.house("body 0 0 60 240 0 0;body 0 0 1 9 1 0;day 30;");
            Checks.due("harm of " + n, x.minutes(n), n == 29 ? 28 : 29);
            Checks.due("NOW behind " + n, x.count(0), n == 29 ? 29 : 30);
            Checks.due("one more behind " + n, Checks.tried(() -> x.minutes(1)), n == 29 ? (Object) 1 : "IllegalStateException");
        }
    }

    private static void overIsOver() {
        LentMinds x = Checks.house("body 0 0 60 240 0 0;body 0 0 1 9 1 0;day 30;");
        x.minutes(30);
        for (int n : new int[] {1, 480}) {
            Checks.refusedAndStays("minutes(" + n + ") behind the day", x, () -> x.minutes(n), "IllegalStateException");
        }
        LentMinds y = Checks.house("body 0 0 60 240 0 0;body 0 0 1 9 1 0;day 30;");
        y.minutes(30);
        for (int n : new int[] {0, 481}) {
            Checks.refusedAndStays("minutes(" + n + ") behind the day", y, () -> y.minutes(n), "IllegalArgumentException");
        }
    }

    private static void noHouse() {
        LentMinds x = new LentMinds();
        Checks.refusedAndStays("minutes(1) without a house", x, () -> x.minutes(1), "IllegalStateException");
        Checks.refusedAndStays("minutes(480) without a house", x, () -> x.minutes(480), "IllegalStateException");
        Checks.refusedAndStays("minutes(0) without a house", x, () -> x.minutes(0), "IllegalArgumentException");
        Checks.refusedAndStays("minutes(481) without a house", x, () -> x.minutes(481), "IllegalArgumentException");
        for (int what = 0; what < 4; what++) {
            Checks.due("day(" + what + ") without a house", x.day(what), 0);
        }
        Checks.due("mind() without a house", x.mind(), -1);
    }
}
