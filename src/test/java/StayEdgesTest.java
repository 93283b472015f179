/** Promises 28, 29, 36, 37 at their edges: the way, the first minute there, the last of the day, and one beyond. */
public final class StayEdgesTest {
    private StayEdgesTest() { }

    public static void main(String[] args) {
        onTheWayAndThere();
        theLastMinuteOfTheDay();
        theWayIsLongerThanTheDay();
        itselfAndTheJointOne();
        fromWhereItComesTo();
        whoDoesNotDrift();
        noneAndAllInBed();
        notSoMany();
        theLeastOfAlike();
        nobodyMoves();
        goneAtItsEnds();
        goneWithAllThatWasJudged();
        needsAtTheirEnds();
        jointNeeds();
        Checks.end("StayEdgesTest");
    }

    private static void onTheWayAndThere() {
        // on its way in 0, 1 and 2; one that holds h drifts first in minute h
        int[] due = {0, 0, 0, 1, 2, 3};
        for (int hold = 1; hold <= 6; hold++) {
            LentMinds x = Checks.house("body 0 0 60 240 1 0;body 0 0 60 240 1 0;body 0 0 " + hold + " 240 1 0;breath 3;");
            Checks.due("behind a way of 3, one that holds " + hold, x.stay(1), due[hold - 1]);
            Checks.due("with it already, one that holds " + hold, x.stay(0), hold);
        }
        LentMinds left = Checks.house("body 0 0 1 240 1 0;body 0 0 60 240 1 0;breath 0;");
        Checks.due("at once, the one it left", left.stay(1), 1);
    }

    private static void theLastMinuteOfTheDay() {
        for (int hold = 28; hold <= 31; hold++) {
            LentMinds x = Checks.house("body 0 0 60 240 1 0;body 0 0 " + hold + " 240 1 0;day 30;");
            Checks.due("one that holds " + hold, x.stay(0), hold < 30 ? hold : 999);
            x.minutes(1);
            Checks.due("one that holds " + hold + ", a minute later", x.stay(0), hold < 30 ? hold - 1 : 999);
        }
        LentMinds x = Checks.house("body 0 0 60 240 1 0;body 0 0 1 240 1 0;day 30;");
        x.minutes(29);
        Checks.due("in the last minute", x.stay(0), 0);
        x.minutes(1);
        Checks.due("the day is over", x.stay(0), 999);
        Checks.due("and for the other", x.stay(1), 999);
    }

    private static void theWayIsLongerThanTheDay() {
        String far = "body 0 0 H 240 1 0;body 15 15 60 240 1 0;breath 9;stride 1;day 30;";
        Checks.due("nobody drifts", Checks.house(far.replace("H", "30")).stay(1), 999);
        Checks.due("one in the last minute", Checks.house(far.replace("H", "29")).stay(1), 0);
    }

    private static void itselfAndTheJointOne() {
        String text = "body 0 0 60 240 1 0;body 0 0 1 240 1 0;body 0 0 1 240 1 0;breath 5;day 30;";
        Checks.due("another drifts on the way", Checks.house(text).stay(1), 0);
        Checks.due("the joint one does", Checks.house(text + "joint 1 2;").stay(1), 999);
        Checks.due("told the other way", Checks.house(text + "joint 2 1;").stay(1), 999);
        Checks.due("joint with another", Checks.house(text + "joint 0 2;").stay(1), 0);
        LentMinds one = Checks.house("body 0 0 60 240 1 0;body 0 0 1 240 1 0;breath 5;day 30;");
        Checks.due("itself", one.stay(1), 999);
        LentMinds abed = Checks.house("body 0 0 60 240 1 0;body 0 0 1 240 1 0;joint 0 1;day 30;");
        abed.bed(0, true);
        Checks.due("the joint one has the mind of one in bed", abed.stay(0), 999);
    }

    private static void fromWhereItComesTo() {
        String text = "body 0 0 60 240 1 0;body 15 0 60 240 1 0;body 0 0 H 240 1 0;breath 1;stride 5;day 60;";
        for (int hold = 6; hold <= 9; hold++) {
            LentMinds x = Checks.house(text.replace("H", Integer.toString(hold)));
            Checks.due("four minutes", x.pass(1), 4);
            Checks.due("on its way to it, one that holds " + hold, x.stay(1), hold - 4);
            Checks.due("there and back, one that holds " + hold, x.stay(0), Math.max(0, hold - 8));
            x.minutes(3);
            Checks.due("one minute left, one that holds " + hold, x.stay(1), hold - 4);
            Checks.due("one minute left and back, one that holds " + hold, x.stay(0), Math.max(0, hold - 8));
            x.minutes(1);
            Checks.due("there, one that holds " + hold, x.stay(1), hold - 4);
            Checks.due("nothing has changed", x.mind() + x.count(0), 1 + 4);
        }
    }

    private static void whoDoesNotDrift() {
        String text = "body 0 0 60 240 1 0;body 0 0 2 1 1 0;day 30;";
        LentMinds abed = Checks.house(text);
        abed.bed(1, true);
        Checks.due("one in bed", abed.stay(0), 999);
        LentMinds done = Checks.house(text + "breath 0;");
        done.pass(1);
        done.minutes(1);
        Checks.due("one that is done", done.stay(0), 999);
        Checks.due("one asleep all day", Checks.house(text + "sleep 1 0 29;").stay(0), 999);
        Checks.due("one asleep but for the last", Checks.house(text + "sleep 1 2 28;").stay(0), 29);
        Checks.due("a harm of 0 all the same", Checks.house("body 0 0 60 240 1 0;body 0 0 2 1 0 0;").stay(0), 2);
        LentMinds alone = Checks.house("body 0 0 1 240 1 0;");
        Checks.due("nobody else", alone.stay(0), 999);
    }

    private static void bedsIs(String what, LentMinds x, int body, int many, int bits, int stays) {
        Checks.due(what + ": bits", x.beds(body, many, 0), bits);
        Checks.due(what + ": for how long", x.beds(body, many, 1), stays);
    }

    private static void noneAndAllInBed() {
        LentMinds x = Checks.house("body 0 0 1 240 1 0;".repeat(9) + "day 30;");
        bedsIs("none", x, 0, 0, 0, 1);
        bedsIs("one, which is too few", x, 0, 1, 2, 1);
        bedsIs("seven, which is too few", x, 0, 7, 0b011111110, 1);
        bedsIs("all but the first", x, 0, 8, 0b111111110, 999);
        bedsIs("all but the last", x, 8, 8, 0b011111111, 999);
        LentMinds one = Checks.house("body 0 0 1 240 1 0;");
        bedsIs("one alone", one, 0, 0, 0, 999);
        bedsIs("one alone and one more", one, 0, 1, -1, -1);
    }

    private static void notSoMany() {
        LentMinds x = Checks.house("body 0 0 1 240 1 0;".repeat(3) + "day 30;");
        bedsIs("two of two", x, 0, 2, 6, 999);
        bedsIs("three of two", x, 0, 3, -1, -1);
        bedsIs("eight of two", x, 0, 8, -1, -1);
        x.bed(2, true);
        bedsIs("one of one", x, 0, 1, 2, 999);
        bedsIs("two of one", x, 0, 2, -1, -1);
        bedsIs("of the one in bed itself", x, 2, 2, 3, 999);
        bedsIs("and three", x, 2, 3, -1, -1);
        Checks.refused("nine of one", () -> x.beds(0, 9, 0));
        Checks.refused("what, though there are not so many", () -> x.beds(0, 8, 2));
    }

    private static void theLeastOfAlike() {
        LentMinds x = Checks.house("body 0 0 60 240 1 0;".repeat(5) + "day 30;");
        bedsIs("nobody drifts: the least bits", x, 2, 2, 0b00011, 999);
        LentMinds y = Checks.house("body 0 0 60 240 1 0;body 0 0 9 240 1 0;body 0 0 3 240 1 0;body 0 0 5 240 1 0;"
            + "body 0 0 3 240 1 0;day 30;");
        bedsIs("none", y, 0, 0, 0, 3);
        bedsIs("one of two that drift first", y, 0, 1, 0b00010, 3);
        bedsIs("both", y, 0, 2, 0b10100, 5);
        bedsIs("and the next", y, 0, 3, 0b11100, 9);
        bedsIs("all", y, 0, 4, 0b11110, 999);
        LentMinds joint = Checks.house("body 0 0 60 240 1 0;body 0 0 1 240 1 0;joint 0 1;body 0 0 3 240 1 0;day 30;");
        bedsIs("the joint one need not", joint, 0, 1, 0b100, 999);
        // all are too late: the least bits
        LentMinds late = Checks.house("body 0 0 60 240 1 0;body 0 0 60 240 1 0;body 0 0 1 240 1 0;body 0 0 1 240 1 0;"
            + "breath 9;day 30;");
        bedsIs("drifted on the way", late, 1, 1, 0b0001, 0);
    }

    private static void nobodyMoves() {
        LentMinds x = Checks.house("body 0 0 9 240 1 0;body 0 0 1 240 1 0;body 0 0 3 240 1 0;day 60;");
        x.minutes(5);
        x.pass(2);
        String before = Checks.picture(x);
        x.stay(1);
        x.beds(0, 2, 0);
        x.beds(0, 2, 1);
        x.gone(0);
        x.gone(1);
        x.over();
        Checks.due("all is as it was", Checks.picture(x), before);
    }

    private static void goneIs(String what, LentMinds x, int minutes, int who) {
        Checks.due(what + ": minutes", x.gone(0), minutes);
        Checks.due(what + ": who", x.gone(1), who);
    }

    private static void goneAtItsEnds() {
        for (int hold = 28; hold <= 31; hold++) {
            LentMinds x = Checks.house("body 0 0 " + hold + " 240 1 0;day 30;");
            goneIs("one that holds " + hold, x, hold < 30 ? hold : 999, hold < 30 ? 0 : -1);
        }
        LentMinds nine = Checks.house("body 0 0 2 240 0 0;".repeat(8) + "body 0 0 1 240 0 0;");
        goneIs("the last of nine", nine, 1, 8);
        nine.bed(8, true);
        goneIs("of eight the first", nine, 2, 0);
        nine.minutes(1);
        goneIs("the second, the mind having been with the first", nine, 1, 1);
        nine.minutes(2);
        goneIs("who has drifted already", nine, 0, 1);
        LentMinds asleep = Checks.house("body 0 0 1 240 0 0;sleep 0 0 28;day 30;");
        goneIs("awake for one minute, and it holds", asleep, 999, -1);
        LentMinds done = Checks.house("body 0 0 1 1 0 0;day 30;");
        done.minutes(1);
        goneIs("done", done, 999, -1);
        LentMinds over = Checks.house("body 0 0 60 240 0 0;body 0 0 1 240 0 0;day 30;");
        over.minutes(29);
        goneIs("in the last minute", over, 0, 1);
        over.minutes(1);
        goneIs("the day is over", over, 999, -1);
        goneIs("no house", new LentMinds(), 999, -1);
    }

    private static void goneWithAllThatWasJudged() {
        LentMinds x = Checks.house("body 0 0 1 240 0 0;body 0 0 2 240 0 0;joint 0 1;body 0 0 60 240 0 0;breath 3;");
        x.stay(0);
        goneIs("nobody is spared", x, 1, 0);
        x.beds(0, 2, 0);
        goneIs("nor in bed", x, 1, 0);
        x.pass(2);
        goneIs("nor does it come", x, 1, 0);
        x.gone(0);
        Checks.due("nor does it stay gone", x.mind(), 302);
        // three minutes there, three back; the third drifts in minute 60
        Checks.due("stay behind gone", x.stay(0), 54);
    }

    private static void needsAtTheirEnds() {
        for (int need = 29; need <= 32; need++) {
            LentMinds x = Checks.house("body 0 0 9 " + need + " 0 0;day 30;");
            Checks.due("needs " + need + " of 30", x.over(), Math.max(0, need - 30));
        }
        Checks.due("the most", Checks.house("body 0 0 9 240 0 0;".repeat(9) + "day 30;").over(), 9 * 240 - 30);
        Checks.due("the least", Checks.house("body 0 0 9 1 0 0;").over(), 0);
        Checks.due("just as much", Checks.house("body 0 0 9 240 0 0;body 0 0 9 240 0 0;").over(), 0);
        Checks.due("one more", Checks.house("body 0 0 9 240 0 0;body 0 0 9 240 0 0;body 0 0 9 1 0 0;").over(), 1);
        LentMinds x = Checks.house("body 0 0 9 5 0 0;body 0 0 9 30 0 0;day 30;");
        x.minutes(5);
        Checks.due("one is done", x.over(), 5);
        x.minutes(25);
        Checks.due("the day is over", x.over(), 30);
        x.bed(1, true);
        Checks.due("in bed it needs nothing", x.over(), 0);
        Checks.due("no house", new LentMinds().over(), 0);
    }

    private static void jointNeeds() {
        String joint = "body 0 0 9 A 0 0;body 0 0 9 B 0 0;joint 0 1;day 30;";
        Checks.due("the first needs more", Checks.house(joint.replace("A", "40").replace("B", "35")).over(), 10);
        Checks.due("the second needs more", Checks.house(joint.replace("A", "35").replace("B", "40")).over(), 10);
        Checks.due("as much", Checks.house(joint.replace("A", "31").replace("B", "31")).over(), 1);
        LentMinds x = Checks.house(joint.replace("A", "40").replace("B", "35"));
        x.bed(0, true);
        Checks.due("the one that needs more is in bed", x.over(), 5);
        x.bed(1, true);
        Checks.due("both are", x.over(), 0);
        LentMinds two = Checks.house("body 0 0 9 20 0 0;body 0 0 9 9 0 0;joint 1 0;body 0 0 9 15 0 0;body 0 0 9 16 0 0;"
            + "joint 2 3;day 30;");
        Checks.due("two joint works", two.over(), 6);
        two.minutes(9);
        Checks.due("one of them has one that is done", two.over(), 6);
    }
}
