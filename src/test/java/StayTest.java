/** Promises 28, 29, 36, 37: stay, beds, gone, over. */
public final class StayTest {
    private StayTest() { }

    public static void main(String[] args) {
        staying();
        onItsWay();
        notCounted();
        beds();
        gone();
        over();
        Checks.end("StayTest");
    }

    private static void staying() {
        LentMinds x = Checks.house("body 0 0 3 40 1 0;body 5 0 4 40 1 0;body 0 10 6 40 1 0;day 30;");
        Checks.due("with it already", x.stay(0), 4);
        Checks.due("behind a breath", x.stay(1), 2);
        Checks.due("two minutes off", x.stay(2), 1);
        x.minutes(2);
        Checks.due("two minutes later", x.stay(0), 2);
        Checks.due("the first there", x.stay(2), 0);
        x.minutes(1);
        Checks.due("on the way", x.stay(2), 0);
        x.minutes(2);
        Checks.due("drifted already", x.stay(0), 0);
        x.bed(2, true);
        Checks.due("but not counted itself", x.stay(1), 2);
        Checks.due("nothing has changed", x.mind() + x.day(3), 0);
        LentMinds y = Checks.house("body 0 0 60 40 1 0;body 5 0 1 40 0 0;body 9 9 29 40 0 0;day 30;");
        Checks.due("without harm, too", y.stay(0), 1);
        Checks.due("the first there", y.stay(2), 0);
        y.bed(1, true);
        Checks.due("to the last minute", y.stay(0), 29);
        y.minutes(1);
        Checks.due("still", y.stay(0), 28);
        y.bed(2, true);
        Checks.due("none", y.stay(0), 999);
        y.minutes(480);
        Checks.due("the day is over", y.stay(2), 999);
        Checks.noBody("stay(3)", () -> x.stay(3));
        Checks.noBody("stay(-1)", () -> x.stay(-1));
    }

    private static void onItsWay() {
        LentMinds x = Checks.house("body 0 0 60 40 1 0;body 15 0 60 40 1 0;body 0 0 10 40 1 0;stride 15;day 30;");
        x.pass(1);
        x.minutes(1);
        Checks.due("on its way to it", x.stay(1), 8);
        Checks.due("there and back", x.stay(0), 6);
        Checks.due("none but itself", x.stay(2), 999);
    }

    private static void notCounted() {
        String three = "body 0 0 60 1 1 0;body 0 0 60 40 1 0;body 0 0 5 40 1 0;day 30;";
        Checks.due("not joint", Checks.house(three).stay(0), 5);
        LentMinds joint = Checks.house(three + "joint 2 0;");
        Checks.due("joint with it", joint.stay(0), 999);
        Checks.due("joint with another", joint.stay(1), 4);
        Checks.due("one beside the joint one", Checks.house("body 0 0 60 9 1 0;body 0 0 2 9 1 0;body 0 0 4 9 1 0;"
            + "joint 0 1;").stay(0), 4);
        Checks.due("asleep for a while", Checks.house(three + "sleep 2 2 11;").stay(0), 15);
        LentMinds drifted = Checks.house(three + "sleep 2 7 11;");
        drifted.minutes(7);
        Checks.due("asleep it does not drift", drifted.stay(0), 5);
        LentMinds done = Checks.house("body 0 0 5 1 1 0;body 0 0 60 40 1 0;day 30;");
        done.minutes(1);
        Checks.due("done", done.stay(1), 999);
    }

    private static void beds() {
        LentMinds x = Checks.house("body 0 0 3 4 2 10;body 5 0 4 3 5 20;body 0 10 6 2 1 7;body 0 0 6 2 1 7;day 30;");
        int[] bits = {0, 2, 6, 14};
        int[] stays = {4, 6, 6, 999};
        for (int many = 0; many < 4; many++) {
            Checks.due("beds(0, " + many + ", 0)", x.beds(0, many, 0), bits[many]);
            Checks.due("beds(0, " + many + ", 1)", x.beds(0, many, 1), stays[many]);
        }
        Checks.due("not so many", x.beds(0, 4, 0), -1);
        Checks.due("nor for so long", x.beds(0, 8, 1), -1);
        x.bed(1, true);
        Checks.due("of the others", x.beds(0, 2, 0), 12);
        Checks.due("not so many more", x.beds(0, 3, 0), -1);
        Checks.due("one in bed stays there", x.beds(0, 0, 1), 6);
        Checks.due("from another", x.beds(2, 1, 0), 1);
        Checks.due("of alike the least", x.beds(0, 1, 0), 4);
        Checks.refused("beds(0, -1, 0)", () -> x.beds(0, -1, 0));
        Checks.refused("beds(0, 9, 0)", () -> x.beds(0, 9, 0));
        Checks.refused("beds(0, 1, 2)", () -> x.beds(0, 1, 2));
        Checks.refused("beds(0, 8, -1), though there are not so many", () -> x.beds(0, 8, -1));
        Checks.noBody("beds(4, 1, 0)", () -> x.beds(4, 1, 0));
        Checks.noBody("beds(4, 9, 0)", () -> x.beds(4, 9, 0));
        Checks.due("nobody has moved", x.count(3), 1);
    }

    private static void goneIs(String what, LentMinds x, int minutes, int who) {
        Checks.due(what + ": minutes", x.gone(0), minutes);
        Checks.due(what + ": who", x.gone(1), who);
    }

    private static void gone() {
        LentMinds x = Checks.house("body 0 0 3 4 2 10;body 0 0 3 4 0 0;joint 0 1;body 0 0 9 4 0 0;day 30;");
        goneIs("of two the first", x, 3, 0);
        goneIs("the first in time", Checks.house("body 0 0 2 9 0 0;body 0 0 9 9 0 0;"), 2, 0);
        goneIs("though not by number", Checks.house("body 0 0 9 9 0 0;body 0 0 2 9 0 0;"), 2, 1);
        x.minutes(2);
        goneIs("the mind is gone from now on", x, 3, 0);
        x.bed(0, true);
        goneIs("not one in bed", x, 3, 1);
        x.bed(1, true);
        goneIs("the last", x, 7, 2);
        x.bed(2, true);
        goneIs("nobody", x, 999, -1);
        LentMinds y = Checks.house("body 0 0 60 4 2 10;body 0 0 1 9 1 0;sleep 1 3 5;day 30;");
        y.minutes(3);
        goneIs("one that has drifted sleeps", y, 3, 1);
        y.minutes(3);
        goneIs("awake", y, 0, 1);
        y.minutes(480);
        goneIs("the day is over", y, 999, -1);
        Checks.due("the mind is where it was", y.mind(), 0);
        goneIs("no house", new LentMinds(), 999, -1);
        Checks.refused("gone(2)", () -> x.gone(2));
        Checks.refused("gone(-1)", () -> new LentMinds().gone(-1));
    }

    private static void over() {
        LentMinds x = Checks.house("body 0 0 9 20 0 0;body 0 0 9 11 0 0;day 30;");
        Checks.due("one too much", x.over(), 1);
        x.minutes(5);
        Checks.due("still", x.over(), 1);
        x.pass(1);
        x.minutes(1);
        Checks.due("a breath more", x.over(), 2);
        x.bed(1, true);
        Checks.due("in bed", x.over(), 0);
        LentMinds y = Checks.house("body 0 0 9 20 0 0;body 0 0 9 15 0 0;joint 0 1;body 0 0 9 12 0 0;day 30;");
        Checks.due("joint works once", y.over(), 2);
        Checks.due("joint works that need as much, once",
            Checks.house("body 0 0 9 40 0 0;body 0 0 9 40 0 0;joint 1 0;day 30;").over(), 10);
        y.bed(0, true);
        Checks.due("the other of them", y.over(), 0);
        y.bed(0, false);
        y.minutes(15);
        Checks.due("one done", y.over(), 2);
        y.minutes(5);
        Checks.due("both done", y.over(), 2);
        y.minutes(480);
        Checks.due("at the end", y.over(), 12);
        Checks.due("as much as there is", Checks.house("body 0 0 9 30 0 0;day 30;").over(), 0);
        Checks.due("no house", new LentMinds().over(), 0);
    }
}
