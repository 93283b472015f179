/** Promises 24 to 27, 30, 31, 34, 35 at their edges: just held and just not, 8 at most, the first and the least. */
public final class FewEdgesTest {
    private FewEdgesTest() { }

    public static void main(String[] args) {
        oneAloneAlways();
        justHeld();
        heldOnTheWay();
        eightAtMostCounts();
        fourAtMost();
        whatDoesNotMatter();
        firstAndLastStep();
        theRound();
        farWaysAndManyStates();
        densities();
        twoAtTheirEnds();
        partsOfFourAtMost();
        alikeAtItsEnds();
        backInOneMinute();
        backInForty();
        backByTurns();
        firstOfAlikeSteps();
        largestAndLeast();
        noneSafe();
        Checks.end("FewEdgesTest");
    }

    private static String bodies(int n, int hold, int breath) {
        return ("body 0 0 " + hold + " 9 1 0;").repeat(n) + "breath " + breath + ";";
    }

    private static void oneAloneAlways() {
        for (int hold : new int[] {1, 8, 60}) {
            LentMinds x = Checks.house(bodies(9, hold, 9));
            for (int b : new int[] {0, 8}) {
                String name = "body " + b + " that holds " + hold;
                Checks.due(name + " can be held", x.can(1 << b), true);
                Checks.due(name + ": step 0", x.step(1 << b, 0), b);
                Checks.due(name + ": step 999", x.step(1 << b, 999), b);
                int[] round = {0, 1, 1};
                for (int what = 0; what < 3; what++) {
                    Checks.due(name + ": round " + what, x.round(1 << b, what), round[what]);
                }
            }
        }
    }

    private static void justHeld() {
        // of two each is without for twice the way and a minute
        for (int breath = 0; breath <= 3; breath++) {
            int least = 2 * breath + 1;
            Checks.due("two that hold " + least, Checks.house(bodies(2, least, breath)).can(3), true);
            if (least > 1) {
                Checks.due("two that hold " + (least - 1), Checks.house(bodies(2, least - 1, breath)).can(3), false);
            }
        }
        Checks.due("three that hold 2", Checks.house(bodies(3, 2, 0)).can(7), true);
        Checks.due("three that hold 1", Checks.house(bodies(3, 1, 0)).can(7), false);
        Checks.due("four that hold 3", Checks.house(bodies(4, 3, 0)).can(15), true);
        Checks.due("four that hold 2", Checks.house(bodies(4, 2, 0)).can(15), false);
        Checks.due("four that hold 7, a breath", Checks.house(bodies(4, 7, 1)).can(15), true);
        Checks.due("four that hold 6, a breath", Checks.house(bodies(4, 6, 1)).can(15), false);
        Checks.due("1, 3 and 3", Checks.house(bodies(1, 1, 0) + bodies(2, 3, 0)).can(7), true);
        Checks.due("1, 2 and 8", Checks.house(bodies(1, 1, 0) + bodies(1, 2, 0) + bodies(1, 8, 0)).can(7), false);
    }

    private static void heldOnTheWay() {
        // the first can't be left at all: two minutes behind it is there again at the earliest
        Checks.due("1 and 8, a breath", Checks.house("body 0 0 1 9 1 0;body 0 0 8 9 1 0;").can(3), false);
        Checks.due("2 and 8, a breath", Checks.house("body 0 0 2 9 1 0;body 0 0 8 9 1 0;").can(3), false);
        Checks.due("3 and 8, a breath", Checks.house("body 0 0 3 9 1 0;body 0 0 8 9 1 0;").can(3), true);
        Checks.due("3 and 2, a breath: it is not there in time", Checks.house("body 0 0 3 9 1 0;body 0 0 2 9 1 0;").can(3), false);
        Checks.due("3 and 3, a breath", Checks.house("body 0 0 3 9 1 0;body 0 0 3 9 1 0;").can(3), true);
    }

    private static void eightAtMostCounts() {
        for (int hold : new int[] {8, 9, 60}) {
            LentMinds x = Checks.house("body 0 0 1 9 1 0;body 0 0 " + hold + " 9 1 0;breath 0;");
            // eight with the first, one with the second, and then seven and the one again
            Checks.due("the ninth step, hold " + hold, x.step(3, 8), 1);
            Checks.due("the eighth step, hold " + hold, x.step(3, 7), 0);
            int[] round = {1, 9, 9};
            for (int what = 0; what < 3; what++) {
                Checks.due("round " + what + ", hold " + hold, x.round(3, what), round[what]);
            }
            Checks.due("density, hold " + hold, x.density(2), 111);
        }
        LentMinds y = Checks.house("body 0 0 1 9 1 0;body 0 0 7 9 1 0;breath 0;");
        Checks.due("hold 7: the eighth step", y.step(3, 7), 1);
        Checks.due("hold 7: steps of the round", y.round(3, 1), 8);
        Checks.due("hold 60, a breath of 3", Checks.house(bodies(2, 60, 3)).can(3), true);
        Checks.due("hold 60, a breath of 4", Checks.house(bodies(2, 60, 4)).can(3), false);
        // 8 by habit, too
        LentMinds z = Checks.house("body 0 0 8 40 1 0;habit 0 1;body 0 0 8 9 1 0;breath 4;");
        z.minutes(30);
        Checks.due("hold 38 by habit, a breath of 4", z.can(3), false);
        Checks.due("its density", z.density(1), 111);
    }

    private static void fourAtMost() {
        LentMinds x = Checks.house(bodies(9, 8, 0));
        Checks.due("the first four", x.can(0b1111), true);
        Checks.due("the last four", x.can(0b111100000), true);
        Checks.due("the last one", x.can(0b100000000), true);
        for (int bits : new int[] {0, 0b11111, 0b111110000, 511, 512, 513, 1024, -1, Integer.MIN_VALUE, Integer.MAX_VALUE}) {
            Checks.refused("can(" + bits + ")", () -> x.can(bits));
            Checks.refused("step(" + bits + ", 0)", () -> x.step(bits, 0));
            Checks.refused("round(" + bits + ", 0)", () -> x.round(bits, 0));
            Checks.refused("density(" + bits + ")", () -> x.density(bits));
            Checks.refused("back(" + bits + ", 1, 0)", () -> x.back(bits, 1, 0));
        }
        Checks.refused("back of four", () -> x.back(0b1111, 1, 0));
        Checks.due("back of three", x.back(0b111000000, 1, 0), 0);
        LentMinds three = Checks.house(bodies(3, 8, 0));
        Checks.refused("one who is not there", () -> three.can(0b1000));
        Checks.refused("one who is not there among others", () -> three.can(0b1001));
    }

    private static String answers(LentMinds x) {
        return x.can(7) + " " + x.step(7, 0) + x.step(7, 1) + x.step(7, 2) + x.step(7, 3) + x.step(7, 99) + " "
            + x.round(7, 0) + " " + x.round(7, 1) + " " + x.round(7, 2) + " " + x.density(7) + " " + x.back(7, 40, 0)
            + " " + x.back(7, 40, 1) + " " + x.two(7) + " " + x.can(3);
    }

    private static void whatDoesNotMatter() {
        String three = "body 0 0 5 2 3 0;body 3 0 6 3 2 0;body 0 4 8 240 1 0;stride 4;breath 0;";
        String due = answers(Checks.house(three));
        Checks.due("needs", answers(Checks.house(three.replace(" 5 2 3", " 5 1 3"))), due);
        Checks.due("sleep", answers(Checks.house(three + "sleep 0 0 479;sleep 2 0 479;")), due);
        Checks.due("joint works", answers(Checks.house(three + "joint 0 1;")), due);
        Checks.due("habits that have made nothing yet", answers(Checks.house(three + "habit 1 1;")), due);
        LentMinds abed = Checks.house(three);
        abed.bed(0, true);
        abed.bed(1, true);
        Checks.due("beds", answers(abed), due);
        LentMinds later = Checks.house(three);
        later.minutes(9);
        Checks.due("WITHOUT as it is now, and one that is done", answers(later), due);
        LentMinds away = Checks.house(three);
        away.pass(2);
        Checks.due("where the mind is", answers(away), due);
        LentMinds over = Checks.house(three + "day 30;");
        over.minutes(30);
        Checks.due("the day is over", answers(over), due);
        LentMinds habit = Checks.house(three.replace("0 0 5 2 3 0", "0 0 4 9 3 0") + "habit 0 3;");
        habit.minutes(3);
        Checks.due("hold as it is now", answers(habit), due);
    }

    private static void firstAndLastStep() {
        LentMinds x = Checks.house("body 0 0 1 9 1 0;body 0 0 8 9 1 0;breath 0;");
        for (int k = 0; k < 30; k++) {
            // the second in 8, 17, 26, ..
            Checks.due("step " + k, x.step(3, k), k % 9 == 8 ? 1 : 0);
        }
        Checks.due("step 998", x.step(3, 998), 1);
        Checks.due("step 999", x.step(3, 999), 0);
        LentMinds y = Checks.house(bodies(4, 2, 0));
        Checks.due("step(15, 0) of those who can't be held", y.step(15, 0), -1);
        Checks.due("step(15, 999) of those who can't be held", y.step(15, 999), -1);
    }

    private static void theRound() {
        // 0 0, then 1 0 0 with two ways of a minute
        LentMinds x = Checks.house("body 0 0 3 4 2 10;body 5 0 4 3 5 20;");
        int[] round = {2, 3, 5};
        for (int what = 0; what < 3; what++) {
            Checks.due("round(3, " + what + ")", x.round(3, what), round[what]);
        }
        // four in turn, a breath each: each state on the way comes once
        LentMinds y = Checks.house(bodies(4, 7, 1));
        Checks.due("four in turn: steps", y.round(15, 1), 4);
        Checks.due("four in turn: minutes", y.round(15, 2), 8);
        int first = y.round(15, 0);
        for (int k = first; k < first + 40; k++) {
            Checks.due("a round later, " + k, y.step(15, k + 4), y.step(15, k));
        }
    }

    /** Most states that it may come to lead nowhere; the answers are those of Naive, too. */
    private static void farWaysAndManyStates() {
        hasSteps("body 4 5 8 9 1 0;body 7 13 8 9 1 0;body 13 3 8 9 1 0;body 4 0 8 9 1 0;breath 0;stride 6;",
            "003012030120301", 5, 5, 9);
        hasSteps("body 8 2 5 9 1 0;body 8 5 8 9 1 0;body 0 7 8 9 1 0;body 9 3 8 9 1 0;breath 0;stride 5;",
            "000130201302013", 5, 5, 9);
    }

    private static void hasSteps(String text, String steps, int... round) {
        LentMinds x = Checks.house(text);
        for (int k = 0; k < steps.length(); k++) {
            Checks.due("step " + k, x.step(15, k), steps.charAt(k) - '0');
        }
        for (int what = 0; what < 3; what++) {
            Checks.due("round " + what, x.round(15, what), round[what]);
        }
    }

    private static void densities() {
        int[] due = {500, 333, 250, 200, 166, 142, 125, 111, 111};
        for (int hold = 1; hold <= 9; hold++) {
            LentMinds x = Checks.house(bodies(4, hold, 1));
            Checks.due("density of one that holds " + hold, x.density(8), due[hold - 1]);
            Checks.due("density of four that hold " + hold, x.density(15), 4 * due[hold - 1]);
        }
    }

    private static void twoAtTheirEnds() {
        LentMinds x = Checks.house(bodies(9, 1, 9));
        Checks.due("two: one each", x.two(0b100000001), 1);
        Checks.due("the last two", x.two(0b110000000), 0b010000000);
        Checks.due("three of which none stand together", x.two(0b111), -1);
        LentMinds y = Checks.house(bodies(9, 8, 0));
        Checks.due("six", y.two(0b111111000), 0b000011000);
        for (int bits : new int[] {0, 1, 0b100000000, 0b1111111, 511, 512, 513, -1, Integer.MIN_VALUE, Integer.MAX_VALUE}) {
            Checks.refused("two(" + bits + ")", () -> y.two(bits));
        }
        Checks.refused("one who is not there", () -> Checks.house(bodies(2, 8, 0)).two(0b101));
        Checks.refused("without a house", () -> new LentMinds().two(3));
    }

    private static void partsOfFourAtMost() {
        String far = "body 15 15 8 9 1 0;";
        String near = "body 0 0 8 9 1 0;";
        String free = "breath 0;stride 1;";
        Checks.due("one far, four near", Checks.house(far + near.repeat(4) + free).two(0b11111), 1);
        Checks.due("four near, one far", Checks.house(near.repeat(4) + far + free).two(0b11111), 0b1111);
        Checks.due("one far, five near", Checks.house(far + near.repeat(5) + free).two(0b111111), -1);
        Checks.due("five near, one far", Checks.house(near.repeat(5) + far + free).two(0b111111), -1);
        Checks.due("two far, four near", Checks.house(far.repeat(2) + near.repeat(4) + free).two(0b111111), 0b11);
        Checks.due("near and far in turn", Checks.house((near + far).repeat(3) + free).two(0b111111), 0b010101);
    }

    private static void alikeAtItsEnds() {
        LentMinds x = new LentMinds();
        int[][] due = {{1, 0, 2}, {60, 0, 61}, {60, 30, 1}, {60, 29, 2}, {59, 29, 2}, {58, 29, 1}, {1, 1, 1}, {1, 30, 1},
            {2, 1, 1}, {3, 1, 2}, {4, 1, 2}, {29, 30, 1}, {30, 30, 1}, {59, 30, 1}};
        for (int[] d : due) {
            Checks.due("alike(" + d[0] + ", " + d[1] + ")", x.alike(d[0], d[1]), d[2]);
        }
    }

    private static void backInOneMinute() {
        LentMinds x = Checks.house("body 0 0 1 9 5 0;body 0 0 1 9 7 0;body 0 0 1 9 9 0;breath 9;");
        for (int bits = 1; bits < 8; bits++) {
            Checks.due("back(" + bits + ", 1, 0)", x.back(bits, 1, 0), 0);
            Checks.due("back(" + bits + ", 1, 1)", x.back(bits, 1, 1), Integer.numberOfTrailingZeros(bits));
        }
        Checks.due("in two the others drift", x.back(7, 2, 0), 7 + 9);
        Checks.due("in three", x.back(7, 3, 0), 2 * (7 + 9));
        Checks.due("the first two of them", x.back(3, 2, 0), 7);
        Checks.due("the last two of them", x.back(6, 2, 0), 9);
    }

    private static void backInForty() {
        LentMinds x = Checks.house(("body 0 0 1 9 99 0;").repeat(9) + "breath 9;");
        Checks.due("the greatest harm", x.back(0b111, 40, 0), 2 * 39 * 99);
        Checks.due("its step", x.back(0b111, 40, 1), 0);
        Checks.due("of the last", x.back(0b111000000, 40, 0), 2 * 39 * 99);
        Checks.due("their step", x.back(0b111000000, 40, 1), 6);
        Checks.due("one alone", x.back(0b100000000, 40, 0), 0);
        Checks.due("its step", x.back(0b100000000, 40, 1), 8);
        // a hold of 60 counts as 8: the second drifts in 32 of 40 minutes
        LentMinds y = Checks.house("body 0 0 60 9 1 0;body 15 15 60 9 1 0;breath 9;stride 1;");
        Checks.due("8 minutes", y.back(3, 8, 0), 0);
        Checks.due("9 minutes", y.back(3, 9, 0), 1);
        Checks.due("40 minutes", y.back(3, 40, 0), 32);
    }

    private static void backByTurns() {
        // a breath, and a hold of 2: by turns each of them is without for three minutes, of which one harms
        LentMinds x = Checks.house("body 0 0 2 9 1 0;body 0 0 2 9 1 0;");
        Checks.due("3 minutes", x.back(3, 3, 0), 0);
        Checks.due("9 minutes: one with the first, then by turns", x.back(3, 9, 0), 3);
        Checks.due("10 minutes", x.back(3, 10, 0), 4);
        Checks.due("the first step", x.back(3, 9, 1), 0);
        LentMinds y = Checks.house("body 0 0 1 9 1 0;body 0 0 1 9 1 0;breath 0;");
        Checks.due("each minute the other one", y.back(3, 40, 0), 0);
        Checks.due("staying first", y.back(3, 40, 1), 0);
    }

    private static void firstOfAlikeSteps() {
        LentMinds none = Checks.house("body 0 0 1 9 0 0;body 0 0 1 9 0 0;body 0 0 1 9 0 0;breath 0;");
        Checks.due("no harm by any", none.back(7, 40, 0), 0);
        Checks.due("the first", none.back(7, 40, 1), 0);
        LentMinds last = Checks.house("body 0 0 1 9 0 0;body 0 0 1 9 0 0;body 0 0 1 9 9 0;breath 1;");
        Checks.due("to the last at once", last.back(7, 40, 0), 0);
        Checks.due("that step alone", last.back(7, 40, 1), 2);
        Checks.due("in one minute it is all the same", last.back(7, 1, 1), 0);
    }

    private static void largestAndLeast() {
        Checks.due("four of nine", Checks.house(bodies(9, 8, 0)).safe(), 0b1111);
        Checks.due("three of nine", Checks.house(bodies(9, 2, 0)).safe(), 0b111);
        Checks.due("one of nine", Checks.house(bodies(9, 1, 1)).safe(), 1);
        String far = "body 15 15 8 9 1 0;";
        String near = "body 0 0 8 9 1 0;";
        Checks.due("the last four", Checks.house("body 15 0 8 9 1 0;" + far.repeat(3) + "body 0 15 8 9 1 0;"
            + near.repeat(4) + "breath 0;stride 1;").safe(), 0b111100000);
        Checks.due("the larger, though its bits are more", Checks.house(far.repeat(2) + near.repeat(3)
            + "breath 0;stride 1;").safe(), 0b11100);
        LentMinds x = Checks.house(bodies(6, 8, 0));
        x.bed(0, true);
        x.bed(2, true);
        Checks.due("without those in bed", x.safe(), 0b111010);
        LentMinds asleep = Checks.house(bodies(5, 8, 0) + "sleep 0 0 479;");
        Checks.due("with those asleep", asleep.safe(), 0b1111);
        LentMinds drifted = Checks.house(bodies(3, 2, 0));
        drifted.minutes(9);
        Checks.due("with those who have drifted, but not the one that is done", drifted.safe(), 0b110);
    }

    private static void noneSafe() {
        Checks.due("no house", new LentMinds().safe(), 0);
        LentMinds x = Checks.house("body 0 0 1 1 1 0;body 0 0 1 1 1 0;");
        x.minutes(1);
        Checks.due("one left", x.safe(), 2);
        x.bed(1, true);
        Checks.due("one done, one in bed", x.safe(), 0);
        x.bed(1, false);
        Checks.due("out of it", x.safe(), 2);
    }
}
