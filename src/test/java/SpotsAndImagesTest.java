/** Promises 32, 33, 38, 39, 40: spot, placed, image, restore, count. */
public final class SpotsAndImagesTest {
    private static final String SIX = "body 0 0 3 9 1 4;".repeat(6);

    private SpotsAndImagesTest() { }

    public static void main(String[] args) {
        sixSpots();
        placed();
        images();
        counts();
        Checks.end("SpotsAndImagesTest");
    }

    private static void sixSpots() {
        LentMinds x = new LentMinds();
        Checks.refused("spot(-1, 0)", () -> x.spot(-1, 0));
        Checks.refused("spot(16, 0)", () -> x.spot(16, 0));
        Checks.refused("spot(0, -1)", () -> x.spot(0, -1));
        Checks.refused("spot(0, 16)", () -> x.spot(0, 16));
        for (int i = 1; i <= 6; i++) {
            Checks.due("spot " + i, x.spot(15, i), i);
        }
        Checks.due("spot 7", x.spot(0, 0), -1);
        Checks.refused("a wrong one, though there are six", () -> x.spot(16, 0));
        Checks.due("count(2)", x.count(2), 6);
        Checks.due("placed without a house", x.placed(0), -1);
    }

    private static void placedIs(String what, LentMinds x, int cost, int digits) {
        Checks.due(what + ": cost", x.placed(0), cost);
        Checks.due(what + ": spots", x.placed(1), digits);
    }

    private static void placed() {
        LentMinds x = Checks.house(SIX + "stride 5;");
        placedIs("no spots", x, -1, -1);
        Checks.refused("placed(2)", () -> x.placed(2));
        Checks.refused("placed(-1)", () -> x.placed(-1));
        x.spot(0, 0);
        placedIs("one", x, 0, 0);
        x.spot(15, 0);
        placedIs("there and back", x, 2 * (1 + 3), 1);
        x.spot(0, 15);
        placedIs("three", x, 4 + 7 + 4, 1 * 6 + 2);
        x.spot(15, 15);
        // 0 1 3 2: four sides of the square
        placedIs("round the square", x, 4 * 4, 1 * 36 + 3 * 6 + 2);
        x.spot(0, 0);
        x.spot(15, 15);
        // 0 4 1 3 5 2 and the like: two of them beside one another for a breath
        int first = ((((0 * 6 + 1) * 6 + 3) * 6 + 5) * 6 + 2) * 6 + 4;
        placedIs("two on one spot each", x, 4 * 4 + 2, first);
        LentMinds y = Checks.house("body 1 1 3 9 1 4;body 1 1 3 9 1 4;breath 0;");
        y.spot(0, 0);
        y.spot(0, 0);
        placedIs("for nothing", y, 0, 1);
        y.spot(0, 1);
        placedIs("fewer bodies", y, -1, -1);
    }

    private static void images() {
        LentMinds x = Checks.house("body 0 0 1 2 3 4;body 5 5 1 9 3 4;body 5 5 9 9 3 4;");
        x.minutes(3);
        x.pass(1);
        x.bed(2, true);
        x.passing(9, 2);
        x.spot(1, 2);
        Checks.due("image 1", x.image(), 1);
        int[] before = all(x);
        x.minutes(9);
        x.bed(2, false);
        x.bed(0, true);
        x.pass(2);
        x.clear();
        x.spot(3, 4);
        x.feed(1, 2, 3, 4, 5);
        Checks.due("a fault", x.house(1), -9);
        x.feed(1, 2, 3, 4, 5);
        Checks.due("image 2", x.image(), 2);
        Checks.due("image 3", x.image(), 3);
        Checks.due("image 4", x.image(), -1);
        Checks.due("restore 3", x.restore(), 2);
        Checks.due("restore 2", x.restore(), 1);
        Checks.due("NOW in it", x.count(0), 12);
        Checks.due("restore 1", x.restore(), 0);
        int[] after = all(x);
        for (int i = 0; i < before.length; i++) {
            Checks.due("as in the image, " + i, after[i], before[i]);
        }
        Checks.due("but the tape", x.count(5), 20);
        Checks.due("and the fault", x.fault(), 0);
        Checks.due("restore 0", x.restore(), -1);
        Checks.due("an image once more", x.image(), 1);
        x.minutes(1);
        Checks.due("which has not moved", x.restore() + x.count(0), 3);
    }

    private static int[] all(LentMinds x) {
        int[] all = new int[40];
        int n = 0;
        for (int b = 0; b < 3; b++) {
            for (int what = 0; what < 8; what++) {
                all[n++] = x.now(b, what);
            }
        }
        for (int what = 0; what < 4; what++) {
            all[n++] = x.day(what);
            all[n++] = x.judge(what);
            all[n++] = what == 3 ? x.mind() : x.count(what);
        }
        all[n++] = x.placed(0);
        return all;
    }

    private static void counts() {
        LentMinds x = Checks.house(SIX);
        x.minutes(7);
        x.passing(1, 1);
        x.passing(1, 1);
        x.spot(1, 1);
        x.bed(0, true);
        x.bed(3, true);
        x.bed(5, true);
        x.image();
        x.feed(0, 0, 0, 0, 0);
        int[] due = {7, 2, 1, 3, 1, 20};
        for (int what = 0; what < 6; what++) {
            Checks.due("count(" + what + ")", x.count(what), due[what]);
        }
        Checks.due("count(6)", x.count(6), -1);
        Checks.due("count(-1)", x.count(-1), -1);
        Checks.due("count(least)", x.count(Integer.MIN_VALUE), -1);
    }
}
