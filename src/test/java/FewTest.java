/** Promises 24 to 27, 30, 31, 34, 35: can, step, round, density, two, alike, back, safe. */
public final class FewTest {
    private FewTest() { }

    public static void main(String[] args) {
        oneAlone();
        inTurn();
        eightAtMost();
        asItIsNow();
        likeAlike();
        cannot();
        twoMinds();
        backlog();
        safeOnes();
        wrongInputs();
        Checks.end("FewTest");
    }

    private static String bodies(int n, int hold, int breath) {
        return ("body 0 0 " + hold + " 9 1 0;").repeat(n) + "breath " + breath + ";";
    }

    private static void oneAlone() {
        LentMinds x = Checks.house(bodies(2, 1, 9));
        Checks.due("can(2)", x.can(2), true);
        Checks.due("step(2, 999)", x.step(2, 999), 1);
        Checks.due("its round", x.round(2, 0) + 10 * x.round(2, 1) + 100 * x.round(2, 2), 110);
        Checks.due("density", x.density(2), 500);
    }

    private static void inTurn() {
        LentMinds x = Checks.house(bodies(9, 1, 0));
        Checks.due("two", x.can(0b110000000), true);
        Checks.due("three", x.can(0b111), false);
        int[] steps = {7, 8, 7, 8};
        for (int k = 0; k < 4; k++) {
            Checks.due("step " + k, x.step(0b110000000, k), steps[k]);
        }
        Checks.due("step 999", x.step(0b110000000, 999), 8);
        Checks.due("first step of the round", x.round(0b110000000, 0), 1);
        Checks.due("steps", x.round(0b110000000, 1), 2);
        Checks.due("minutes", x.round(0b110000000, 2), 2);
        // 3 and 4 minutes, a breath: three with the first, then there and back
        LentMinds y = Checks.house("body 0 0 3 4 2 10;body 5 0 4 3 5 20;");
        int[] long0 = {0, 0, 0, 1, 0, 0, 1, 0, 0, 1};
        for (int k = 0; k < long0.length; k++) {
            Checks.due("a round of three, step " + k, y.step(3, k), long0[k]);
        }
        Checks.due("its first", y.round(3, 0), 2);
        Checks.due("its steps", y.round(3, 1), 3);
        Checks.due("its minutes", y.round(3, 2), 5);
    }

    private static void eightAtMost() {
        Checks.due("density", Checks.house(bodies(4, 60, 1)).density(15), 444);
        Checks.due("density of 8", Checks.house(bodies(1, 8, 1)).density(1), 111);
        Checks.due("density of 7", Checks.house(bodies(1, 7, 1)).density(1), 125);
        Checks.due("a breath of 3", Checks.house(bodies(2, 60, 3)).can(3), true);
        Checks.due("a breath of 4", Checks.house(bodies(2, 60, 4)).can(3), false);
    }

    private static void asItIsNow() {
        LentMinds x = Checks.house("body 0 0 1 9 1 0;habit 0 1;body 0 0 2 9 1 0;breath 1;joint 0 1;sleep 0 0 99;");
        Checks.due("hold 1 and 2, a breath", x.can(3), false);
        LentMinds y = Checks.house("body 0 0 1 9 1 0;habit 0 1;body 0 0 3 9 1 0;breath 1;");
        Checks.due("not yet", y.can(3), false);
        y.minutes(2);
        Checks.due("by habit", y.can(3), true);
        Checks.due("density by habit", y.density(3), 500);
        y.bed(0, true);
        y.bed(1, true);
        y.pass(1);
        Checks.due("beds and the mind no matter", y.can(3), true);
        Checks.due("the first has it", y.step(3, 0), 0);
    }

    private static void likeAlike() {
        LentMinds any = new LentMinds();
        for (int h = 1; h <= 8; h++) {
            for (int c = 0; c <= 9; c++) {
                LentMinds x = Checks.house(bodies(4, h, c));
                int most = Math.min(4, any.alike(h, c));
                Checks.due("hold " + h + ", breath " + c, x.safe(), (1 << most) - 1);
            }
        }
        Checks.due("alike(60, 0)", any.alike(60, 0), 61);
        Checks.due("alike(60, 30)", any.alike(60, 30), 1);
        Checks.due("alike(1, 30)", any.alike(1, 30), 1);
        Checks.due("alike(9, 1)", any.alike(9, 1), 5);
        Checks.due("alike(8, 1)", any.alike(8, 1), 4);
        Checks.refused("alike(0, 0)", () -> any.alike(0, 0));
        Checks.refused("alike(61, 0)", () -> any.alike(61, 0));
        Checks.refused("alike(1, -1)", () -> any.alike(1, -1));
        Checks.refused("alike(1, 31)", () -> any.alike(1, 31));
    }

    private static void cannot() {
        LentMinds x = Checks.house(bodies(4, 2, 0));
        Checks.due("can(15)", x.can(15), false);
        Checks.due("step(15, 0)", x.step(15, 0), -1);
        for (int what = 0; what < 3; what++) {
            Checks.due("round(15, " + what + ")", x.round(15, what), -1);
        }
        Checks.due("density(15)", x.density(15), 1332);
        Checks.due("three of them", x.can(14), true);
    }

    private static void twoMinds() {
        LentMinds x = Checks.house(bodies(9, 1, 0));
        Checks.due("two", x.two(0b1010), 0b10);
        Checks.due("three: one alone", x.two(0b111), 0b1);
        Checks.due("four: two and two", x.two(0b1111), 0b11);
        Checks.due("five: never", x.two(0b11111), -1);
        Checks.due("not from the first on", x.two(0b110011000), 0b11000);
        LentMinds y = Checks.house(bodies(9, 2, 0));
        Checks.due("six: three and three", y.two(0b111111), 0b111);
        Checks.due("five: two and three", y.two(0b11111), 0b11);
        LentMinds z = Checks.house(bodies(9, 3, 0));
        Checks.due("six: two and four", z.two(0b111111000), 0b11000);
        Checks.due("five: one and four", z.two(0b111110000), 0b10000);
        LentMinds w = Checks.house("body 0 0 3 9 0 0;".repeat(4) + bodies(2, 1, 0));
        Checks.due("six: four and two", w.two(0b111111), 0b1111);
        Checks.refused("one", () -> x.two(1));
        Checks.refused("none", () -> x.two(0));
        Checks.refused("seven", () -> x.two(0b1111111));
        Checks.refused("who is not there", () -> x.two(0b1000000001));
        Checks.refused("bits below 0", () -> x.two(Integer.MIN_VALUE | 1));
    }

    private static void backlog() {
        LentMinds x = Checks.house("body 0 0 1 9 5 0;body 0 0 1 9 3 0;breath 9;");
        Checks.due("one alone", x.back(2, 40, 0), 0);
        Checks.due("its step", x.back(2, 40, 1), 1);
        Checks.due("stay, and let the other drift", x.back(3, 5, 0), 12);
        Checks.due("first step", x.back(3, 5, 1), 0);
        Checks.due("one minute", x.back(3, 1, 0), 0);
        Checks.due("of alike the first", x.back(3, 1, 1), 0);
        LentMinds y = Checks.house("body 0 0 1 9 0 0;body 0 0 1 9 9 0;breath 1;");
        Checks.due("go at once", y.back(3, 10, 0), 0);
        Checks.due("to the second", y.back(3, 10, 1), 1);
        // a hold of 60 counts as 8: 32 minutes of 40
        LentMinds z = Checks.house("body 0 0 60 9 1 0;body 15 15 60 9 1 0;breath 9;stride 1;");
        Checks.due("8 at most", z.back(3, 40, 0), 32);
        // 0 and 2 in turn, so that 1 drifts from the ninth minute on; to go to 1 lets 2 drift twice
        LentMinds v = Checks.house("body 0 0 1 9 9 0;body 0 0 8 9 1 0;body 0 0 1 9 2 0;breath 0;");
        Checks.due("nine minutes", v.back(7, 9, 0), 1);
        Checks.due("eleven minutes", v.back(7, 11, 0), 3);
        Checks.due("twelve minutes, the one or the other", v.back(7, 12, 0), 4);
        Checks.due("thirteen minutes, by going there", v.back(7, 13, 0), 4);
        Checks.due("first step to the first", v.back(7, 13, 1), 0);
        LentMinds w = Checks.house(bodies(3, 1, 0));
        Checks.due("three in turn: one of them drifts in each minute from the second on", w.back(7, 10, 0), 9);
    }

    private static void safeOnes() {
        LentMinds x = Checks.house(bodies(9, 1, 0));
        Checks.due("the least of the largest", x.safe(), 3);
        x.bed(0, true);
        Checks.due("none in bed", x.safe(), 6);
        LentMinds y = Checks.house("body 0 0 1 1 1 0;" + bodies(2, 1, 0));
        y.minutes(1);
        Checks.due("none that is done", y.safe(), 6);
        y.bed(1, true);
        Checks.due("one alone", y.safe(), 4);
        y.bed(2, true);
        Checks.due("nobody", y.safe(), 0);
        Checks.due("no house", new LentMinds().safe(), 0);
        LentMinds z = Checks.house("body 0 0 1 9 1 0;" + bodies(4, 8, 1));
        Checks.due("four, not from the first on", z.safe(), 0b11110);
    }

    private static void wrongInputs() {
        LentMinds x = Checks.house(bodies(6, 1, 0));
        int[] few = {0, 0b11111, 0b1000000, -1, Integer.MIN_VALUE, 0b1000001};
        for (int bits : few) {
            Checks.refused("can", () -> x.can(bits));
            Checks.refused("step", () -> x.step(bits, 0));
            Checks.refused("round", () -> x.round(bits, 0));
            Checks.refused("density", () -> x.density(bits));
            Checks.refused("back", () -> x.back(bits, 1, 0));
        }
        Checks.refused("back of four", () -> x.back(15, 1, 0));
        Checks.refused("back in 0", () -> x.back(1, 0, 0));
        Checks.refused("back in 41", () -> x.back(1, 41, 0));
        Checks.refused("back(1, 1, 2)", () -> x.back(1, 1, 2));
        Checks.refused("back(1, 1, -1)", () -> x.back(1, 1, -1));
        Checks.refused("step(1, -1)", () -> x.step(1, -1));
        Checks.refused("step(1, 1000)", () -> x.step(1, 1000));
        Checks.refused("step(7, 1000) of those who can't", () -> x.step(7, 1000));
        Checks.refused("round(1, -1)", () -> x.round(1, -1));
        Checks.refused("round(7, 3) of those who can't", () -> x.round(7, 3));
    }
}
