/** Promises 1 to 6: a new object, the tape, the house and its faults. */
public final class HouseTest {
    private static final String BODY = "body 0 0 1 1 0 0;";

    private HouseTest() { }

    public static void main(String[] args) {
        aNewObject();
        theTape();
        whatIsTold();
        defaultsAndLast();
        cannotStand();
        noneSuch();
        tooMany();
        nobody();
        allBeginsAnew();
        faultStays();
        Checks.end("HouseTest");
    }

    private static void aNewObject() {
        LentMinds x = new LentMinds();
        for (int what = 0; what <= 4; what++) {
            Checks.due("told(" + what + ") of nobody", x.told(what), 0);
        }
        Checks.due("fault() of nobody", x.fault(), -1);
        Checks.due("mind() of nobody", x.mind(), -1);
        Checks.noBody("body(0, 0) of nobody", () -> x.body(0, 0));
        Checks.noBody("now(0, 0) of nobody", () -> x.now(0, 0));
        Checks.noBody("pass(0) of nobody", () -> x.pass(0));
        Checks.noBody("passing(0, 0) of nobody", () -> x.passing(0, 0));
        Checks.refused("can(1) of nobody", () -> x.can(1));
        Checks.refused("back(1, 1, 0) of nobody", () -> x.back(1, 1, 0));
        Checks.due("placed(1) of nobody", x.placed(1), -1);
        Checks.due("clear() of nobody", x.clear(), 0);
        Checks.due("restore() of nobody", x.restore(), -1);
    }

    private static void theTape() {
        LentMinds x = new LentMinds();
        for (int i = 1; i <= 25; i++) {
            Checks.due("feed " + i, x.feed(0x20202020, 0x20202020, 0x20202020, 0x20202020, 0x20202020), 20 * i);
        }
        Checks.due("feed 26", x.feed(1, 2, 3, 4, 5), -1);
        Checks.due("count(5)", x.count(5), 500);
        Checks.refused("house(501)", () -> x.house(501));
        Checks.refused("house(-1)", () -> x.house(-1));
        Checks.due("the tape stays", x.count(5), 500);
        Checks.due("500 blanks", x.house(500), -6);
        Checks.due("their fault", x.fault(), 500);
        Checks.due("the tape is empty", x.count(5), 0);
        Checks.refused("house(1) of an empty tape", () -> x.house(1));
        // of each number the highest byte first
        x.feed('b' << 24 | 'o' << 16 | 'd' << 8 | 'y', 0x20312032, 0x20332034, 0x20352036, 0x3bffffff);
        Checks.due("a body of 17 bytes", x.house(17), 1);
        for (int what = 0; what < 6; what++) {
            Checks.due("its number " + what, x.body(0, what), what + 1);
        }
    }

    private static void whatIsTold() {
        LentMinds x = Checks.house("body 15 0 60 240 99 98;body 1 2 3 4 5 6;body0 0 1 1 0 0;joint 2 0;habit 1 60;"
            + "breath 9;stride 30;day 30;");
        int[] first = {15, 0, 60, 240, 99, 98, 0, 2};
        for (int what = 0; what < 8; what++) {
            Checks.due("body(0, " + what + ")", x.body(0, what), first[what]);
        }
        Checks.due("habit", x.body(1, 6), 60);
        Checks.due("alone", x.body(1, 7), -1);
        Checks.due("joint", x.body(2, 7), 0);
        int[] told = {3, 9, 30, 30, 1};
        for (int what = 0; what < 5; what++) {
            Checks.due("told(" + what + ")", x.told(what), told[what]);
        }
        Checks.refused("told(-1)", () -> x.told(-1));
        Checks.refused("told(5)", () -> x.told(5));
        Checks.refused("body(0, 8)", () -> x.body(0, 8));
        Checks.refused("body(0, -1)", () -> x.body(0, -1));
        Checks.noBody("body(3, 0)", () -> x.body(3, 0));
        Checks.noBody("body(-1, 0)", () -> x.body(-1, 0));
        Checks.noBody("body(3, 8)", () -> x.body(3, 8));
    }

    private static void defaultsAndLast() {
        LentMinds x = Checks.house(BODY);
        Checks.due("breath without", x.told(1), 1);
        Checks.due("stride without", x.told(2), 10);
        Checks.due("day without", x.told(3), 480);
        LentMinds y = Checks.house(BODY + "breath 2;breath 3;stride 1;stride 4;day 40;day 50;habit 0 7;habit 0 9;"
            + "sleep 0 0 9;sleep 0 1 2;cries 0 1 20;cries 0 20 0;");
        Checks.due("the last breath", y.told(1), 3);
        Checks.due("the last stride", y.told(2), 4);
        Checks.due("the last day", y.told(3), 50);
        Checks.due("the last habit", y.body(0, 6), 9);
        Checks.due("the last sleep", y.now(0, 6), 0);
        Checks.due("the last cries", y.trust(0, 1), 1000);
        Checks.due("asleep for the first minute", Checks.house(BODY + "sleep 0 0 0;").now(0, 6), 1);
        LentMinds z = new LentMinds();
        Checks.due("blanks and zeros", Checks.tell(z, "   body 007 0  0001 1 0 0  ;day0030;   "), 1);
        Checks.due("007", z.body(0, 0), 7);
        Checks.due("0030", z.told(3), 30);
        Checks.due("nine bodies and forty clauses", Checks.tell(z, BODY.repeat(9) + "day 30;".repeat(31)), 9);
    }

    private static void faulty(String text, int fault, int place) {
        LentMinds x = new LentMinds();
        Checks.due("house of '" + text + "'", Checks.tell(x, text), fault - 10);
        Checks.due("fault of '" + text + "'", x.fault(), place);
        Checks.due("no house by '" + text + "'", x.told(0), 0);
    }

    private static void cannotStand() {
        faulty(";", 1, 0);
        faulty("  1", 1, 2);
        faulty("bodyy 0 0 1 1 0 0;", 1, 0);
        faulty("bod 0 0 1 1 0 0;", 1, 0);
        faulty("xody 0 0 1 1 0 0;", 1, 0);
        faulty("bodx 0 0 1 1 0 0;", 1, 0);
        faulty("bodyz 0 0 1 1 0 0;", 1, 0);
        faulty("bodya 0 0 1 1 0 0;", 1, 0);
        faulty("Body 0 0 1 1 0 0;", 1, 0);
        faulty("body", 1, 4);
        faulty("body   ", 1, 7);
        faulty("body x 0 1 1 0 0;", 1, 5);
        faulty("body 0,0 1 1 0 0;", 1, 6);
        faulty("body -1 0 1 1 0 0;", 1, 5);
        faulty("body 0 0 1 1 0 0 0;", 1, 17);
        faulty("body 0 0 1 1 0;", 1, 14);
        faulty("body 0 0 1 1 0 0", 1, 16);
        faulty("body 0 0 1 1 0 0  ", 1, 18);
        faulty(BODY + ";", 1, 17);
        faulty(BODY + "  " + (char) 9, 1, 19);
        faulty(BODY + (char) 200, 1, 17);
        faulty("breath 1", 1, 8);
    }

    private static void noneSuch() {
        faulty("body 16 0 1 1 0 0;", 2, 5);
        faulty("body 0 16 1 1 0 0;", 2, 7);
        faulty("body 0 0 0 1 0 0;", 2, 9);
        faulty("body 0 0 61 1 0 0;", 2, 9);
        faulty("body 0 0 1 0 0 0;", 2, 11);
        faulty("body 0 0 1 241 0 0;", 2, 11);
        faulty("body 0 0 1 1 100 0;", 2, 13);
        faulty("body 0 0 1 1 0 100;", 2, 15);
        faulty("body 4294967296 0 1 1 0 0;", 2, 5);
        faulty("body 00018446744073709551616 x", 2, 5);
        faulty(BODY + "joint 0 1;" + BODY, 2, 25);
        faulty(BODY + "joint 1 0;", 2, 23);
        faulty(BODY + "joint 0 0;", 2, 25);
        faulty(BODY.repeat(3) + "joint 0 1;joint 2 1;", 2, 69);
        faulty(BODY.repeat(3) + "joint 0 1;joint 0 2;", 2, 67);
        faulty(BODY + "sleep 1 0 0;", 2, 23);
        faulty(BODY + "sleep 0 480 480;", 2, 25);
        faulty(BODY + "sleep 0 479 480;", 2, 29);
        faulty(BODY + "sleep 0 5 4;", 2, 27);
        faulty(BODY + "habit 1 1;", 2, 23);
        faulty(BODY + "cries 1 1 1;", 2, 23);
        faulty(BODY + "joint 9 1;", 2, 23);
        faulty(BODY + "habit 0 0;", 2, 25);
        faulty(BODY + "habit 0 61;", 2, 25);
        faulty(BODY + "cries 0 0 0;", 2, 25);
        faulty(BODY + "cries 0 21 0;", 2, 25);
        faulty(BODY + "cries 0 1 21;", 2, 27);
        faulty("breath 10;", 2, 7);
        faulty("stride 0;", 2, 7);
        faulty("stride 31;", 2, 7);
        faulty("day 29;", 2, 4);
        faulty("day 481", 2, 4);
    }

    private static void tooMany() {
        faulty(BODY.repeat(10), 3, 153);
        faulty(BODY.repeat(9) + " body", 3, 154);
        faulty(BODY + "day 30;".repeat(39) + "day 30;", 3, 290);
        faulty("day 30;".repeat(40) + "day", 3, 280);
        // of one place the least
        faulty("day 30;".repeat(40) + "days 30;", 1, 280);
    }

    private static void nobody() {
        faulty("", 4, 0);
        faulty("    ", 4, 4);
        faulty("breath 1;", 4, 9);
        faulty("breath 1; ", 4, 10);
    }

    private static void allBeginsAnew() {
        LentMinds x = Checks.house("body 0 0 1 9 3 4;body 0 0 1 9 3 4;day 30;");
        x.minutes(5);
        x.pass(1);
        x.bed(0, true);
        x.passing(3, 1);
        x.spot(1, 1);
        x.image();
        Checks.due("anew", Checks.tell(x, BODY + BODY), 2);
        for (int what = 0; what < 6; what++) {
            Checks.due("count(" + what + ") anew", x.count(what), 0);
        }
        for (int what = 0; what < 4; what++) {
            Checks.due("day(" + what + ") anew", x.day(what), 0);
        }
        Checks.due("mind() anew", x.mind(), 0);
        Checks.due("WITHOUT anew", x.now(1, 0), 0);
        Checks.due("DID anew", x.now(0, 1), 0);
    }

    private static void faultStays() {
        LentMinds x = Checks.house("body 3 0 1 9 3 4;body 0 0 1 9 3 4;");
        x.minutes(3);
        Checks.due("a faulty house", Checks.tell(x, "body"), -9);
        Checks.due("its fault", x.fault(), 4);
        Checks.due("the house stays", x.body(0, 0), 3);
        Checks.due("NOW stays", x.count(0), 3);
        Checks.due("the tape goes", x.count(5), 0);
        Checks.due("a good house", Checks.tell(x, BODY), 1);
        Checks.due("no fault", x.fault(), -1);
    }
}
