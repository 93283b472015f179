/**
 * Each exception that a promise names: each argument of each call at its least and greatest value,
 * just beyond them and farthest off; which of two exceptions comes first; and that all stays as it
 * was behind a refused call. What names no exception throws none, whatever it is given.
 */
public final class RefusalsTest {
    /** Both need 240 minutes, and can so be taught 239; both cry. */
    private static final String TWO = "body 1 2 3 240 5 6;cries 0 7 3;body 4 4 8 240 2 9;cries 1 2 2;joint 0 1;";
    private static final int LEAST = Integer.MIN_VALUE;
    private static final int MOST = Integer.MAX_VALUE;

    private RefusalsTest() { }

    public static void main(String[] args) {
        house();
        whats();
        bodies();
        minutes();
        rules();
        lessons();
        cries();
        few();
        others();
        bodyFirst();
        withoutAHouse();
        neverRefused();
        Checks.end("RefusalsTest");
    }

    private static void house() {
        for (int fed = 0; fed <= 25; fed += 5) {
            for (int beyond : new int[] {-1, 20 * fed + 1, LEAST, MOST}) {
                LentMinds x = Checks.house(TWO);
                for (int i = 0; i < fed; i++) {
                    x.feed(0x20202020, 0x20202020, 0x20202020, 0x20202020, 0x20202020);
                }
                Checks.refusedAndStays("house(" + beyond + ")", x, () -> x.house(beyond), "IllegalArgumentException");
                Checks.due("what is on the tape", x.house(20 * fed), -6);
            }
        }
    }

    private static void whats() {
        Checks.numbers("told", TWO, 0, 4, LentMinds::told);
        Checks.numbers("body", TWO, 0, 7, (x, what) -> x.body(1, what));
        Checks.numbers("now", TWO, 0, 7, (x, what) -> x.now(1, what));
        Checks.numbers("day", TWO, 0, 3, LentMinds::day);
        Checks.numbers("judge", TWO, 0, 3, LentMinds::judge);
        Checks.numbers("run: what", TWO, 0, 3, (x, what) -> x.run(0, 1, what, 0));
        Checks.numbers("round: what", TWO, 0, 2, (x, what) -> x.round(1, what));
        Checks.numbers("beds: what", TWO, 0, 1, (x, what) -> x.beds(0, 1, what));
        Checks.numbers("placed", TWO, 0, 1, LentMinds::placed);
        Checks.numbers("back: what", TWO, 0, 1, (x, what) -> x.back(3, 1, what));
        Checks.numbers("gone", TWO, 0, 1, LentMinds::gone);
    }

    private static void bodies() {
        String nine = "body 0 0 1 9 1 1;".repeat(9);
        for (int many : new int[] {1, 2, 9}) {
            String text = nine.substring(0, 17 * many);
            Checks.bodies("body", text, many, (x, b) -> x.body(b, 0));
            Checks.bodies("now", text, many, (x, b) -> x.now(b, 0));
            Checks.bodies("costs", text, many, (x, b) -> x.costs(b, 0));
            Checks.bodies("costs: other", text, many, (x, b) -> x.costs(0, b));
            Checks.bodies("pass", text, many, LentMinds::pass);
            Checks.bodies("bed", text, many, (x, b) -> x.bed(b, true));
            Checks.bodies("bed: out of it", text, many, (x, b) -> x.bed(b, false));
            Checks.bodies("passing", text, many, (x, b) -> x.passing(0, b));
            Checks.bodies("taught", text, many, (x, b) -> x.taught(b, 1, 0, 1));
            Checks.bodies("trust", text, many, (x, b) -> x.trust(b, 1));
            Checks.bodies("answer", text, many, (x, b) -> x.answer(b, 1, 1, 0));
            Checks.bodies("stay", text, many, LentMinds::stay);
            Checks.bodies("beds", text, many, (x, b) -> x.beds(b, 0, 0));
        }
    }

    private static void minutes() {
        Checks.numbers("minutes", TWO, 1, 480, LentMinds::minutes);
        Checks.numbers("minutes of a short day", TWO + "day 30;", 1, 480, LentMinds::minutes);
        Checks.numbers("passing: minute", TWO, 0, 479, (x, minute) -> x.passing(minute, 1));
        Checks.numbers("passing: minute of a short day", TWO + "day 30;", 0, 479, (x, minute) -> x.passing(minute, 1));
    }

    private static void rules() {
        Checks.numbers("run: rule", TWO, 0, 5, (x, rule) -> x.run(rule, 1, 0, 0));
        Checks.numbers("run: q", TWO, 1, 60, (x, q) -> x.run(5, q, 0, 0));
        for (int seed : new int[] {LEAST, -1, 0, 1, MOST}) {
            answered("run by any seed", () -> Checks.house(TWO).run(5, 60, 3, seed));
        }
        Checks.numbers("best", TWO, 1, 60, LentMinds::best);
        Checks.numbers("often", TWO, 0, 4, LentMinds::often);
    }

    private static void lessons() {
        Checks.numbers("taught: so many", TWO, 1, 239, (x, many) -> x.taught(0, many, 0, 1));
        Checks.numbers("taught: rule", TWO, 0, 4, (x, rule) -> x.taught(0, 1, rule, 1));
        Checks.numbers("taught: q", TWO, 1, 60, (x, q) -> x.taught(0, 1, 0, q));
        Checks.numbers("taught: below N", TWO + "body 0 0 1 9 1 1;", 1, 8, (x, many) -> x.taught(2, many, 0, 1));
        Checks.numbers("pays: so many", TWO, 1, 239, (x, many) -> x.pays(many, 0, 1));
        Checks.numbers("pays: so many, whom nobody can be taught", "body 0 0 1 1 1 1;", 1, 239, (x, many) -> x.pays(many, 0, 1));
        Checks.numbers("pays: rule", TWO, 0, 4, (x, rule) -> x.pays(1, rule, 1));
        Checks.numbers("pays: q", TWO, 1, 60, (x, q) -> x.pays(1, 0, q));
    }

    private static void cries() {
        Checks.numbers("trust", TWO, 1, 20, (x, d) -> x.trust(0, d));
        Checks.numbers("trust of one who never cries", "body 0 0 1 1 1 1;", 1, 20, (x, d) -> x.trust(0, d));
        Checks.numbers("answer: d", TWO, 1, 20, (x, d) -> x.answer(0, d, 1, 0));
        Checks.numbers("answer: t", TWO, 1, 60, (x, t) -> x.answer(0, 1, t, 0));
        Checks.numbers("answer: cost", TWO, 0, 9999, (x, cost) -> x.answer(0, 1, 1, cost));
        Checks.numbers("answer of one who never cries: cost", "body 0 0 1 1 1 1;", 0, 9999, (x, cost) -> x.answer(0, 1, 1, cost));
    }

    private static void few() {
        Checks.numbers("can", TWO, 1, 3, LentMinds::can);
        Checks.numbers("can of one", "body 0 0 1 1 1 1;", 1, 1, LentMinds::can);
        Checks.numbers("step: bits", TWO, 1, 3, (x, bits) -> x.step(bits, 0));
        Checks.numbers("step: k", TWO, 0, 999, (x, k) -> x.step(3, k));
        Checks.numbers("step: k of those who can't be held", "body 0 0 1 1 1 1;body 0 0 1 1 1 1;", 0, 999, (x, k) -> x.step(3, k));
        Checks.numbers("round: bits", TWO, 1, 3, (x, bits) -> x.round(bits, 0));
        Checks.numbers("round: what of those who can't be held", "body 0 0 1 1 1 1;body 0 0 1 1 1 1;", 0, 2,
            (x, what) -> x.round(3, what));
        Checks.numbers("density", TWO, 1, 3, LentMinds::density);
        Checks.numbers("two", TWO, 3, 3, LentMinds::two);
        Checks.numbers("back: bits", TWO, 1, 3, (x, bits) -> x.back(bits, 1, 0));
        Checks.numbers("back: t", TWO, 1, 40, (x, t) -> x.back(3, t, 0));
        String nine = "body 0 0 8 9 1 1;".repeat(9);
        for (int bits = 0; bits < 512; bits++) {
            int many = Integer.bitCount(bits);
            int asked = bits;
            LentMinds x = Checks.house(nine);
            Checks.due("can(" + bits + ") throws", Checks.tried(() -> x.can(asked)).equals("IllegalArgumentException"),
                many < 1 || many > 4);
            Checks.due("density(" + bits + ") throws", Checks.tried(() -> x.density(asked)).equals("IllegalArgumentException"),
                many < 1 || many > 4);
            Checks.due("two(" + bits + ") throws", Checks.tried(() -> x.two(asked)).equals("IllegalArgumentException"),
                many < 2 || many > 6);
            Checks.due("back(" + bits + ") throws", Checks.tried(() -> x.back(asked, 2, 0)).equals("IllegalArgumentException"),
                many < 1 || many > 3);
        }
    }

    private static void others() {
        Checks.numbers("beds: so many", TWO, 0, 8, (x, many) -> x.beds(0, many, 0));
        Checks.numbers("alike: h", TWO, 1, 60, (x, h) -> x.alike(h, 0));
        Checks.numbers("alike: c", TWO, 0, 30, (x, c) -> x.alike(1, c));
        Checks.numbers("spot: x", TWO, 0, 15, (x, at) -> x.spot(at, 0));
        Checks.numbers("spot: y", TWO, 0, 15, (x, at) -> x.spot(0, at));
    }

    /** Where no such body and a wrong number meet, the first of the two in the face is thrown. */
    private static void bodyFirst() {
        LentMinds x = Checks.house(TWO);
        Checks.noBody("body(2, 8)", () -> x.body(2, 8));
        Checks.noBody("now(2, 8)", () -> x.now(2, 8));
        Checks.noBody("passing(480, 2)", () -> x.passing(480, 2));
        Checks.noBody("taught(2, 0, 0, 1)", () -> x.taught(2, 0, 0, 1));
        Checks.noBody("taught(2, 1, 5, 1)", () -> x.taught(2, 1, 5, 1));
        Checks.noBody("taught(2, 1, 0, 0)", () -> x.taught(2, 1, 0, 0));
        Checks.noBody("trust(2, 0)", () -> x.trust(2, 0));
        Checks.noBody("answer(2, 0, 0, -1)", () -> x.answer(2, 0, 0, -1));
        Checks.noBody("beds(2, 9, 2)", () -> x.beds(2, 9, 2));
    }

    /** A number is wrong with or without a house. */
    private static void withoutAHouse() {
        LentMinds x = new LentMinds();
        String before = Checks.picture(x);
        Checks.refused("told(5)", () -> x.told(5));
        Checks.refused("day(4)", () -> x.day(4));
        Checks.refused("judge(4)", () -> x.judge(4));
        Checks.refused("run(6, 1, 0, 0)", () -> x.run(6, 1, 0, 0));
        Checks.refused("run(0, 0, 0, 0)", () -> x.run(0, 0, 0, 0));
        Checks.refused("run(0, 1, 4, 0)", () -> x.run(0, 1, 4, 0));
        Checks.refused("best(0)", () -> x.best(0));
        Checks.refused("best(61)", () -> x.best(61));
        Checks.refused("often(5)", () -> x.often(5));
        Checks.refused("pays(0, 0, 1)", () -> x.pays(0, 0, 1));
        Checks.refused("pays(1, 5, 1)", () -> x.pays(1, 5, 1));
        Checks.refused("pays(1, 0, 61)", () -> x.pays(1, 0, 61));
        Checks.refused("can(1)", () -> x.can(1));
        Checks.refused("step(1, 0)", () -> x.step(1, 0));
        Checks.refused("round(1, 0)", () -> x.round(1, 0));
        Checks.refused("density(1)", () -> x.density(1));
        Checks.refused("two(3)", () -> x.two(3));
        Checks.refused("back(1, 1, 0)", () -> x.back(1, 1, 0));
        Checks.refused("alike(0, 0)", () -> x.alike(0, 0));
        Checks.refused("spot(16, 0)", () -> x.spot(16, 0));
        Checks.refused("placed(2)", () -> x.placed(2));
        Checks.refused("gone(2)", () -> x.gone(2));
        Checks.due("all is as it was", Checks.picture(x), before);
        Checks.due("a spot", x.spot(15, 0), 1);
        Checks.due("alike", x.alike(60, 0), 61);
    }

    private static LentMinds over() {
        LentMinds x = Checks.house(TWO + "day 30;");
        x.pass(1);
        x.minutes(480);
        return x;
    }

    private static void neverRefused() {
        LentMinds[] all = {new LentMinds(), Checks.house(TWO), over()};
        for (LentMinds x : all) {
            for (int number : new int[] {LEAST, -1, 0, 1, 7, MOST}) {
                answered("feed", () -> x.feed(number, number, number, number, number));
                answered("count", () -> x.count(number));
            }
            answered("fault", x::fault);
            answered("mind", x::mind);
            answered("clear", x::clear);
            answered("safe", x::safe);
            answered("over", x::over);
            for (int i = 0; i < 5; i++) {
                answered("image", x::image);
            }
            for (int i = 0; i < 5; i++) {
                answered("restore", x::restore);
            }
        }
    }

    private static void answered(String call, Checks.Call made) {
        Checks.due(call + " answers a number", Checks.tried(made) instanceof Integer, true);
    }
}
