/** Promises 32, 33, 38, 39, 40 at their edges: six spots, three images and one more; what an image has and has not. */
public final class SpotImageEdgesTest {
    private static final String BODY = "body 0 0 1 9 3 4;";

    private SpotImageEdgesTest() { }

    public static void main(String[] args) {
        sixAndOneMore();
        noneAndTooMany();
        oneSpotAlone();
        leastAndGreatestRound();
        wayOfARoundIsCut();
        firstOfAlikeRounds();
        allOrdersAreTried();
        placedDoesNotMove();
        threeAndOneMore();
        noneLeft();
        latestFirst();
        whatAnImageHas();
        worthAndHarmOfADay();
        whatAnImageHasNot();
        aNewHouseHasNone();
        imagesWithoutAHouse();
        countsOfOthers();
        countsAtTheirMost();
        Checks.end("SpotImageEdgesTest");
    }

    private static void sixAndOneMore() {
        LentMinds x = Checks.house(BODY.repeat(9));
        int[][] corners = {{0, 0}, {15, 0}, {0, 15}, {15, 15}, {0, 0}, {7, 8}};
        for (int i = 0; i < 6; i++) {
            Checks.due("spot " + (i + 1), x.spot(corners[i][0], corners[i][1]), i + 1);
        }
        String before = Checks.picture(x);
        Checks.due("spot 7", x.spot(1, 1), -1);
        Checks.due("and again", x.spot(15, 15), -1);
        Checks.due("nothing has changed", Checks.picture(x), before);
        LentMinds y = new LentMinds();
        for (int i = 1; i <= 6; i++) {
            Checks.due("without a house, spot " + i, y.spot(0, 15), i);
        }
        Checks.refusedAndStays("a wrong one, with six", y, () -> y.spot(0, 16), "IllegalArgumentException");
    }

    private static void placedIs(String what, LentMinds x, int cost, int digits) {
        Checks.due(what + ": cost", x.placed(0), cost);
        Checks.due(what + ": spots", x.placed(1), digits);
    }

    private static void noneAndTooMany() {
        LentMinds x = Checks.house(BODY.repeat(5));
        placedIs("no spots", x, -1, -1);
        for (int i = 0; i < 5; i++) {
            x.spot(i, 0);
        }
        // 0 1 2 3 4: five ways of a breath each, as any other
        placedIs("as many as bodies", x, 5, 1 * 216 + 2 * 36 + 3 * 6 + 4);
        x.spot(9, 9);
        placedIs("one more than bodies", x, -1, -1);
        LentMinds none = new LentMinds();
        placedIs("neither", none, -1, -1);
        none.spot(1, 1);
        placedIs("without a house", none, -1, -1);
        LentMinds more = Checks.house(BODY.repeat(9));
        more.spot(3, 3);
        more.spot(3, 3);
        placedIs("fewer than bodies", more, 2, 1);
    }

    private static void oneSpotAlone() {
        LentMinds x = Checks.house(BODY + "breath 9;");
        x.spot(15, 15);
        placedIs("it stays where it is", x, 0, 0);
    }

    private static void leastAndGreatestRound() {
        LentMinds least = Checks.house(BODY.repeat(6) + "breath 0;stride 30;");
        LentMinds most = Checks.house(BODY.repeat(6) + "breath 9;stride 1;");
        for (int i = 0; i < 6; i++) {
            least.spot(15 * (i % 2), 14 * (i % 2));
            most.spot(15 * (i % 2), 15 * (i % 2));
        }
        // 29 by 30 each
        placedIs("for nothing", least, 0, ((((0 * 6 + 1) * 6 + 2) * 6 + 3) * 6 + 4) * 6 + 5);
        // 0 0 0, then 15 15 three times: two of the six ways are long; 0 1 3 5 2 4 is the first such row
        placedIs("the farthest", most, 6 * 9 + 2 * 30, ((((0 * 6 + 1) * 6 + 3) * 6 + 5) * 6 + 2) * 6 + 4);
        LentMinds two = Checks.house(BODY.repeat(2) + "breath 9;stride 1;");
        two.spot(0, 15);
        two.spot(15, 0);
        placedIs("there and back", two, 78, 1);
    }

    private static void wayOfARoundIsCut() {
        LentMinds x = Checks.house(BODY.repeat(2) + "breath 1;stride 7;");
        x.spot(3, 9);
        x.spot(5, 4);
        placedIs("7 by 7", x, 4, 1);
        LentMinds y = Checks.house(BODY.repeat(2) + "breath 1;stride 8;");
        y.spot(3, 9);
        y.spot(5, 4);
        placedIs("7 by 8", y, 2, 1);
    }

    private static void firstOfAlikeRounds() {
        // one way round and the other cost the same: 0 1 2 3, not 0 3 2 1
        LentMinds x = Checks.house(BODY.repeat(4) + "breath 0;stride 5;");
        x.spot(0, 0);
        x.spot(5, 0);
        x.spot(5, 5);
        x.spot(0, 5);
        placedIs("a square", x, 4, 1 * 36 + 2 * 6 + 3);
        LentMinds crossed = Checks.house(BODY.repeat(4) + "breath 0;stride 5;");
        crossed.spot(0, 0);
        crossed.spot(5, 5);
        crossed.spot(5, 0);
        crossed.spot(0, 5);
        placedIs("a square told crosswise", crossed, 4, 2 * 36 + 1 * 6 + 3);
    }

    private static void allOrdersAreTried() {
        // round a ring of ways of one, in each order in which its six spots can be told behind the first
        int[][] ring = {{0, 0}, {3, 0}, {6, 0}, {6, 3}, {3, 3}, {0, 3}};
        int[] order = {1, 2, 3, 4, 5};
        int told = 0;
        do {
            LentMinds x = Checks.house(BODY.repeat(6) + "breath 0;stride 3;");
            x.spot(0, 0);
            int[] placeOf = new int[6];
            for (int i = 0; i < 5; i++) {
                x.spot(ring[order[i]][0], ring[order[i]][1]);
                placeOf[order[i]] = i + 1;
            }
            Checks.due("the ring's cost", x.placed(0), 6);
            Checks.due("the ring's spots", x.placed(1), Math.min(around(placeOf, 1), around(placeOf, -1)));
            told++;
        } while (next(order));
        Checks.due("orders", told, 120);
    }

    private static int around(int[] placeOf, int way) {
        int digits = 0;
        for (int i = 0; i < 6; i++) {
            digits = digits * 6 + placeOf[(i * way + 6) % 6];
        }
        return digits;
    }

    private static boolean next(int[] order) {
        int i = order.length - 2;
        while (i >= 0 && order[i] > order[i + 1]) {
            i--;
        }
        if (i < 0) {
            return false;
        }
        int j = order.length - 1;
        while (order[j] < order[i]) {
            j--;
        }
        int kept = order[i];
        order[i] = order[j];
        order[j] = kept;
        java.util.Arrays.sort(order, i + 1, order.length);
        return true;
    }

    private static void placedDoesNotMove() {
        LentMinds x = Checks.house("body 3 4 1 9 3 4;body 5 6 1 9 3 4;");
        x.spot(0, 0);
        x.spot(15, 15);
        String before = Checks.picture(x);
        x.placed(0);
        x.placed(1);
        Checks.due("nobody moves", Checks.picture(x), before);
        Checks.due("what it costs, too", x.costs(0, 1), 1);
    }

    private static void threeAndOneMore() {
        LentMinds x = Checks.house(BODY.repeat(2));
        for (int i = 1; i <= 3; i++) {
            x.minutes(i);
            Checks.due("image " + i, x.image(), i);
            Checks.due("count", x.count(4), i);
        }
        x.minutes(10);
        String before = Checks.picture(x);
        Checks.due("image 4", x.image(), -1);
        Checks.due("and again", x.image(), -1);
        Checks.due("nothing has changed", Checks.picture(x), before);
        int[] now = {6, 3, 1};
        for (int i = 0; i < 3; i++) {
            Checks.due("restore " + i, x.restore(), 2 - i);
            Checks.due("NOW of it", x.count(0), now[i]);
        }
    }

    private static void noneLeft() {
        LentMinds x = Checks.house(BODY.repeat(2));
        x.minutes(2);
        String before = Checks.picture(x);
        Checks.due("none yet", x.restore(), -1);
        Checks.due("nothing has changed", Checks.picture(x), before);
        x.image();
        Checks.due("one", x.restore(), 0);
        Checks.due("which is gone", x.restore(), -1);
        Checks.due("none", x.count(4), 0);
        Checks.due("a new one", x.image(), 1);
    }

    private static void latestFirst() {
        LentMinds x = Checks.house(BODY.repeat(2));
        x.image();
        x.minutes(1);
        x.image();
        x.minutes(1);
        Checks.due("the latest", x.restore() + 10 * x.count(0), 1 + 10);
        x.minutes(5);
        Checks.due("a new one behind it", x.image(), 2);
        x.minutes(5);
        Checks.due("the latest", x.restore() + 10 * x.count(0), 1 + 60);
        Checks.due("the first", x.restore() + 10 * x.count(0), 0);
    }

    private static void whatAnImageHas() {
        LentMinds x = Checks.house("body 0 0 2 2 3 4;body 5 5 1 9 3 4;habit 1 1;body 5 5 9 9 3 4;sleep 2 2 9;breath 2;");
        x.minutes(2);
        x.pass(1);
        x.minutes(2);
        x.minutes(1);
        x.pass(2);
        x.minutes(1);
        x.bed(0, true);
        x.passing(7, 1);
        x.passing(12, 2);
        x.spot(1, 2);
        x.spot(9, 9);
        Checks.due("image", x.image(), 1);
        String before = Checks.picture(x);
        int mind = x.mind();
        // all of it becomes another
        x.bed(0, false);
        x.bed(1, true);
        x.clear();
        x.passing(30, 0);
        x.passing(31, 1);
        x.passing(32, 1);
        x.spot(15, 15);
        x.minutes(9);
        x.pass(0);
        x.minutes(4);
        Checks.due("restore", x.restore(), 0);
        Checks.due("all is as it was", Checks.picture(x), before.replace(" 1 0; placed", " 0 0; placed"));
        Checks.due("the mind on its way", x.mind(), mind);
        Checks.due("a spot more is the third", x.spot(0, 0), 3);
        Checks.due("a passing more is the third", x.passing(0, 0), 3);
    }

    private static void worthAndHarmOfADay() {
        LentMinds x = Checks.house("body 0 0 1 3 5 7;body 0 0 1 9 2 1;");
        x.minutes(2);
        x.image();
        x.minutes(2);
        int[] behind = {6, 7, 1, 0};
        int[] ahead = {2, 0, 0, 0};
        for (int what = 0; what < 4; what++) {
            Checks.due("day(" + what + ") behind the image", x.day(what), behind[what]);
        }
        x.restore();
        for (int what = 0; what < 4; what++) {
            Checks.due("day(" + what + ") as in the image", x.day(what), ahead[what]);
        }
        Checks.due("not done any more", x.now(0, 4), 0);
        x.minutes(1);
        Checks.due("done anew", x.day(1), 7);
    }

    private static void whatAnImageHasNot() {
        LentMinds x = Checks.house(BODY.repeat(2));
        x.image();
        x.feed(0, 0, 0, 0, 0);
        Checks.due("a fault", x.house(3), -9);
        x.feed(0x20202020, 0x20202020, 0x20202020, 0x20202020, 0x20202020);
        x.feed(0x20202020, 0x20202020, 0x20202020, 0x20202020, 0x20202020);
        Checks.due("restore", x.restore(), 0);
        Checks.due("the fault stays", x.fault(), 0);
        Checks.due("the tape stays", x.count(5), 40);
        Checks.due("what is on it, too", x.house(40), -6);
        Checks.due("its place", x.fault(), 40);
        Checks.due("the house is the same", x.told(0), 2);
    }

    private static void aNewHouseHasNone() {
        LentMinds x = Checks.house(BODY.repeat(2));
        x.image();
        x.image();
        x.image();
        Checks.due("a fault leaves them", Checks.tell(x, "day 1;"), -8);
        Checks.due("three", x.count(4), 3);
        Checks.due("a house takes them", Checks.tell(x, BODY), 1);
        Checks.due("none", x.count(4), 0);
        Checks.due("none to restore", x.restore(), -1);
        Checks.due("the first of the new house", x.image(), 1);
    }

    private static void imagesWithoutAHouse() {
        LentMinds x = new LentMinds();
        x.spot(1, 1);
        for (int i = 1; i <= 3; i++) {
            Checks.due("image " + i, x.image(), i);
        }
        Checks.due("image 4", x.image(), -1);
        x.spot(2, 2);
        Checks.due("restore", x.restore(), 2);
        Checks.due("one spot", x.count(2), 1);
        Checks.due("still nobody", x.mind() + x.told(0), -1);
    }

    private static void countsOfOthers() {
        LentMinds[] all = {new LentMinds(), Checks.house(BODY)};
        for (LentMinds x : all) {
            for (int what : new int[] {-1, 6, 7, 100, Integer.MIN_VALUE, Integer.MAX_VALUE}) {
                Checks.due("count(" + what + ")", x.count(what), -1);
            }
            for (int what = 0; what < 6; what++) {
                Checks.due("count(" + what + ")", x.count(what), 0);
            }
        }
    }

    private static void countsAtTheirMost() {
        LentMinds x = Checks.house("body 0 0 1 9 3 4;".repeat(9));
        x.minutes(480);
        for (int i = 0; i < 31; i++) {
            x.passing(i, 0);
            x.spot(1, 1);
            x.bed(i % 9, true);
            x.feed(0, 0, 0, 0, 0);
            x.image();
        }
        int[] due = {480, 30, 6, 9, 3, 500};
        for (int what = 0; what < 6; what++) {
            Checks.due("count(" + what + ") at most", x.count(what), due[what]);
        }
    }
}
