/**
 * Promises 1 to 6 at their edges: each number of each clause, the empty and the full text, one
 * clause or body more, the empty and the full tape, and what stays behind a fault.
 */
public final class HouseEdgesTest {
    private static final String BODY = "body 0 0 1 1 0 0;";
    private static final String DAY = "day 30;";

    /** Reads back what a clause has told. */
    private interface Reading {
        int of(LentMinds x);
    }

    private HouseEdgesTest() { }

    public static void main(String[] args) {
        aNewObject();
        numbersOfBodies();
        numbersOfTheHouse();
        numbersOfClauses();
        whoIsNamed();
        fromAndTo();
        jointAlready();
        withoutClauses();
        theLastCounts();
        digits();
        words();
        blanks();
        endsTooEarly();
        fiveHundredBytes();
        fortyClauses();
        nineBodies();
        nobody();
        firstAndLeastFault();
        tape();
        bytesOfTheTape();
        howManyBytes();
        faultsStay();
        thrownHouseStays();
        nothingLeftOver();
        Checks.end("HouseEdgesTest");
    }

    private static void faulty(String text, int fault, int place) {
        LentMinds x = new LentMinds();
        Checks.due("house of '" + text + "'", Checks.tell(x, text), fault - 10);
        Checks.due("fault of '" + text + "'", x.fault(), place);
        Checks.due("bodies by '" + text + "'", x.told(0), 0);
    }

    private static void good(String text, int bodies) {
        LentMinds x = new LentMinds();
        Checks.due("house of '" + text + "'", Checks.tell(x, text), bodies);
        Checks.due("fault of '" + text + "'", x.fault(), -1);
        Checks.due("bodies by '" + text + "'", x.told(0), bodies);
    }

    private static void aNewObject() {
        LentMinds x = new LentMinds();
        Checks.due("a new object", Checks.picture(x),
            "told 0 0 0 0 0; fault -1 mind -1; day, judge, count 0/0 0/0 0/-1 0/0 0 0 0 0 0 0; placed -1 -1");
        Checks.due("gone(0)", x.gone(0), 999);
        Checks.due("gone(1)", x.gone(1), -1);
        Checks.due("safe()", x.safe(), 0);
        Checks.due("over()", x.over(), 0);
        Checks.due("image()", x.image(), 1);
        Checks.due("restore()", x.restore(), 0);
    }

    /** The number at the sign # of a text: from least to most it is told, just beyond it is none such. */
    private static void number(String text, int least, int most, Reading reading) {
        int place = text.indexOf('#');
        for (int value : new int[] {least, most}) {
            String told = text.replace("#", Integer.toString(value));
            LentMinds x = Checks.house(told);
            Checks.due("fault of '" + told + "'", x.fault(), -1);
            Checks.due("what '" + told + "' tells", reading.of(x), value);
        }
        faulty(text.replace("#", Integer.toString(most + 1)), 2, place);
        faulty(text.replace("#", Integer.toString(least - 1)), least == 0 ? 1 : 2, place);
        faulty(text.replace("#", Integer.toString(Integer.MAX_VALUE)), 2, place);
    }

    private static void numbersOfBodies() {
        number("body # 0 1 1 0 0;", 0, 15, x -> x.body(0, 0));
        number("body 0 # 1 1 0 0;", 0, 15, x -> x.body(0, 1));
        number("body 0 0 # 1 0 0;", 1, 60, x -> x.body(0, 2));
        number("body 0 0 1 # 0 0;", 1, 240, x -> x.body(0, 3));
        number("body 0 0 1 1 # 0;", 0, 99, x -> x.body(0, 4));
        number("body 0 0 1 1 0 #;", 0, 99, x -> x.body(0, 5));
    }

    private static void numbersOfTheHouse() {
        number(BODY + "breath #;", 0, 9, x -> x.told(1));
        number(BODY + "stride #;", 1, 30, x -> x.told(2));
        number(BODY + "day #;", 30, 480, x -> x.told(3));
    }

    private static void numbersOfClauses() {
        number(BODY + "habit 0 #;", 1, 60, x -> x.body(0, 6));
        // 1,000 A by (A and B), at a chance of a half
        number(BODY + "cries 0 # 20;", 1, 20, x -> x.trust(0, 10) == 47 ? 1 : x.trust(0, 10) == 500 ? 20 : -1);
        number(BODY + "cries 0 20 #;", 0, 20, x -> x.trust(0, 10) == 1000 ? 0 : x.trust(0, 10) == 500 ? 20 : -1);
        number(BODY + "sleep 0 # 479;", 0, 479, x -> x.now(0, 6) == 1 ? 0 : firstInTheLast(x) ? 479 : -1);
        number(BODY + "sleep 0 0 #;", 0, 479, x -> asleepBehind(x, 1) == 0 ? 0 : asleepBehind(x, 478));
    }

    /** Whether body 0 falls asleep in the very last minute. */
    private static boolean firstInTheLast(LentMinds x) {
        return asleepBehind(x, 478) == 0 && asleepBehind(x, 1) == 479;
    }

    /** So many minutes later: NOW, if body 0 is asleep then; 0 if it is not. */
    private static int asleepBehind(LentMinds x, int minutes) {
        x.minutes(minutes);
        return x.now(0, 6) == 1 ? x.count(0) : 0;
    }

    private static void whoIsNamed() {
        String nine = BODY.repeat(9);
        number(nine + "sleep # 0 0;", 0, 8, x -> x.now(0, 6) == 1 ? 0 : x.now(8, 6) == 1 ? 8 : -1);
        number(nine + "habit # 7;", 0, 8, x -> x.body(0, 6) == 7 ? 0 : x.body(8, 6) == 7 ? 8 : -1);
        number(nine + "cries # 1 1;", 0, 8, x -> x.trust(0, 1) >= 0 ? 0 : x.trust(8, 1) >= 0 ? 8 : -1);
        number(nine + "joint # 4;", 0, 8, x -> x.body(4, 7));
        number(nine + "joint 4 #;", 0, 8, x -> x.body(4, 7));
        // told ahead: a body that comes behind is none yet
        faulty(BODY + "sleep 1 0 0;" + BODY, 2, 23);
        faulty(BODY + "habit 1 1;" + BODY, 2, 23);
        faulty(BODY + "cries 1 1 1;" + BODY, 2, 23);
        faulty(BODY + "joint 1 0;" + BODY, 2, 23);
        faulty(BODY + "joint 0 1;" + BODY, 2, 25);
        faulty("sleep 0 0 0;" + BODY, 2, 6);
        faulty("habit 0 1;" + BODY, 2, 6);
        faulty("cries 0 1 1;" + BODY, 2, 6);
        faulty("joint 0 1;" + BODY, 2, 6);
        good(BODY + "sleep 0 0 0;habit 0 1;cries 0 1 1;" + BODY + "joint 1 0;", 2);
    }

    private static void fromAndTo() {
        good(BODY + "sleep 0 5 5;", 1);
        good(BODY + "sleep 0 4 5;", 1);
        faulty(BODY + "sleep 0 5 4;", 2, 27);
        faulty(BODY + "sleep 0 479 478;", 2, 29);
        faulty(BODY + "sleep 0 479 0;", 2, 29);
        faulty(BODY + "sleep 0 1 0;", 2, 27);
        faulty(BODY + "sleep 0 480 0;", 2, 25);
    }

    private static void jointAlready() {
        String four = BODY.repeat(4);
        good(four + "joint 0 1;joint 2 3;", 4);
        LentMinds x = Checks.house(four + "joint 3 0;joint 2 1;");
        int[] joint = {3, 2, 1, 0};
        for (int b = 0; b < 4; b++) {
            Checks.due("joint with " + b, x.body(b, 7), joint[b]);
        }
        Checks.due("joint works", x.told(4), 2);
        faulty(four + "joint 0 0;", 2, 76);
        faulty(four + "joint 3 3;", 2, 76);
        faulty(four + "joint 0 1;joint 0 2;", 2, 84);
        faulty(four + "joint 0 1;joint 1 2;", 2, 84);
        faulty(four + "joint 0 1;joint 2 0;", 2, 86);
        faulty(four + "joint 0 1;joint 2 1;", 2, 86);
        faulty(four + "joint 0 1;joint 0 1;", 2, 84);
        faulty(four + "joint 0 1;joint 1 0;", 2, 84);
        Checks.due("four joint works", Checks.house(BODY.repeat(9)
            + "joint 8 0;joint 1 7;joint 6 2;joint 3 5;").told(4), 4);
    }

    private static void withoutClauses() {
        LentMinds x = Checks.house(BODY);
        int[] told = {1, 1, 10, 480, 0};
        for (int what = 0; what < 5; what++) {
            Checks.due("told(" + what + ") without", x.told(what), told[what]);
        }
        Checks.due("habit without", x.body(0, 6), 0);
        Checks.due("joint without", x.body(0, 7), -1);
        Checks.due("sleep without", x.now(0, 6), 0);
        Checks.due("cries without", x.trust(0, 20), -1);
        Checks.due("cries without", x.trust(0, 1), -1);
    }

    private static void theLastCounts() {
        LentMinds x = Checks.house(BODY + BODY + "habit 0 60;habit 1 2;habit 0 1;sleep 0 0 9;sleep 1 0 9;sleep 0 9 9;"
            + "cries 0 20 20;cries 1 20 20;cries 0 1 0;breath 0;breath 9;stride 1;stride 30;day 480;day 30;");
        int[] told = {2, 9, 30, 30, 0};
        for (int what = 0; what < 5; what++) {
            Checks.due("told(" + what + ") at last", x.told(what), told[what]);
        }
        Checks.due("the last habit", x.body(0, 6), 1);
        Checks.due("another's habit", x.body(1, 6), 2);
        Checks.due("the last sleep", x.now(0, 6), 0);
        Checks.due("another's sleep", x.now(1, 6), 1);
        Checks.due("the last cries", x.trust(0, 1), 1000);
        Checks.due("another's cries", x.trust(1, 1), 50);
        // each of them may be told ahead of bodies, if it names none
        good("day 31;breath 2;stride 3;" + BODY, 1);
    }

    private static void digits() {
        LentMinds x = Checks.house("body 015 00 060 00240 0 0000000000000000000000000000000000000000000099;");
        int[] told = {15, 0, 60, 240, 0, 99, 0, -1};
        for (int what = 0; what < 8; what++) {
            Checks.due("body(0, " + what + ") with zeros ahead", x.body(0, what), told[what]);
        }
        for (String large : new String[] {"256", "65536", "65537", "2147483647", "2147483648", "4294967296", "4294967297",
            "9223372036854775808", "18446744073709551616", "18446744073709551617",
            "100000000000000000000000000000000000000000000000000000000000"}) {
            faulty("body 0 0 " + large + " 1 0 0;", 2, 9);
            faulty(BODY + "joint " + large + " 0;", 2, 23);
        }
        // as many as stand there: what looks like two numbers is one
        faulty("body 0 0 11 1 0;", 1, 15);
        faulty("body 0 0 1 1 00;", 1, 15);
        faulty("body 0 0 1 1 0 0 0;", 1, 17);
        faulty("body 1.0 0 1 1 0 0;", 1, 6);
        faulty("body +1 0 1 1 0 0;", 1, 5);
        // the signs that stand just beside the digits
        faulty("body 0 0 1 1 0 0/", 1, 16);
        faulty("body 0 0 1 1 0 0:", 1, 16);
        faulty("body / 0 1 1 0 0;", 1, 5);
        faulty("body : 0 1 1 0 0;", 1, 5);
    }

    private static void words() {
        String[] all = {"body", "joint", "sleep", "habit", "cries", "breath", "stride", "day"};
        for (String word : all) {
            faulty(BODY + word + "s 0 0 0 0 0 0;", 1, 17);
            faulty(BODY + "s" + word + " 0 0 0 0 0 0;", 1, 17);
            faulty(BODY + word.substring(1) + " 0 0 0 0 0 0;", 1, 17);
            faulty(BODY + word.substring(0, word.length() - 1) + " 0 0 0 0 0 0;", 1, 17);
            faulty(BODY + word.toUpperCase() + " 0 0 0 0 0 0;", 1, 17);
            faulty(BODY + word.substring(0, 2) + " " + word.substring(2) + " 0 0 0 0 0 0;", 1, 17);
            faulty(BODY + word + word + " 0 0 0 0 0 0;", 1, 17);
            faulty(BODY + word + ";", 1, 17 + word.length());
            faulty(BODY + word + " " + word, 1, 18 + word.length());
            faulty(BODY + word, 1, 17 + word.length());
        }
        // the signs that stand just beside the small letters
        faulty("`", 1, 0);
        faulty("{", 1, 0);
        faulty("day`30;", 1, 3);
        faulty("day{30;", 1, 3);
        faulty("body 0 0 1 1 0 0day 30;", 1, 16);
        good("body0 0 1 1 0 0;" + BODY + "joint0 1;day30;", 2);
    }

    private static void blanks() {
        good("   body   0   0   1   1   0   0   ;   ", 1);
        good(BODY + " ", 1);
        good(" " + BODY + "   " + BODY, 2);
        faulty("bo dy 0 0 1 1 0 0;", 1, 0);
        faulty("body 0 0 1 1 0 0 ; ;", 1, 19);
        for (int sign : new int[] {0, 9, 10, 13, 31, 33, 127, 128, 160, 255}) {
            faulty("body" + (char) sign + "0 0 1 1 0 0;", 1, 4);
            faulty("body 0 0 1 1 0 0" + (char) sign + ";", 1, 16);
            faulty((char) sign + BODY, 1, 0);
            faulty(BODY + (char) sign, 1, 17);
        }
    }

    private static void endsTooEarly() {
        String text = BODY + BODY + "joint 0 1 ;";
        for (int n = 1; n < text.length(); n++) {
            boolean whole = n == 17 || n == 34;
            // a word that is cut off is another word; a cut number is one all the same
            boolean cutWord = n > 0 && n < 4 || n > 17 && n < 21 || n > 34 && n < 39;
            int place = n < 17 ? 0 : n < 34 ? 17 : 34;
            if (whole) {
                good(text.substring(0, n), n / 17);
            } else {
                faulty(text.substring(0, n), 1, cutWord ? place : n);
            }
        }
        good(text, 2);
        faulty("body ", 1, 5);
        faulty("body 0 0 1 1 0 0   ", 1, 19);
        // without a body, too, it is what can't stand there
        faulty("day 30", 1, 6);
        faulty("day", 1, 3);
    }

    private static void fiveHundredBytes() {
        String blanks = " ".repeat(500);
        good((BODY + blanks).substring(0, 500), 1);
        good(blanks.substring(0, 483) + BODY, 1);
        faulty(blanks.substring(0, 484) + BODY.substring(0, 16), 1, 500);
        faulty(blanks.substring(0, 496) + "body", 1, 500);
        faulty(blanks.substring(0, 499) + ";", 1, 499);
        faulty(blanks, 4, 500);
        faulty(blanks.substring(0, 493) + "day 29;", 2, 497);
        good("body 15 15 60 240 99 99" + " ".repeat(476) + ";", 1);
        good("body " + "0".repeat(483) + "1 1 1 1 1 1;", 1);
    }

    private static void fortyClauses() {
        good(BODY + DAY.repeat(39), 1);
        good(BODY + DAY.repeat(39) + "   ", 1);
        good(DAY.repeat(39) + BODY, 1);
        faulty(BODY + DAY.repeat(40), 3, 290);
        faulty(BODY + DAY.repeat(39) + "  " + DAY, 3, 292);
        faulty(BODY + DAY.repeat(39) + "day", 3, 290);
        faulty(BODY + DAY.repeat(39) + "day 1;", 3, 290);
        faulty(BODY + DAY.repeat(39) + BODY, 3, 290);
        faulty(DAY.repeat(40) + BODY, 3, 280);
        faulty(DAY.repeat(40), 4, 280);
        faulty(DAY.repeat(40) + " ", 4, 281);
        faulty(BODY + DAY.repeat(39) + ";", 1, 290);
        faulty(BODY + DAY.repeat(39) + "7", 1, 290);
        faulty(BODY + DAY.repeat(39) + "da", 1, 290);
        // a fault of the fortieth is told as of any other
        faulty(BODY + DAY.repeat(38) + "day 29;" + DAY, 2, 287);
    }

    private static void nineBodies() {
        good(BODY.repeat(9), 9);
        faulty(BODY.repeat(10), 3, 153);
        faulty(BODY.repeat(9) + "body", 3, 153);
        faulty(BODY.repeat(9) + "  body 99", 3, 155);
        faulty(BODY.repeat(9) + "bodys", 1, 153);
        good(BODY.repeat(9) + DAY, 9);
        faulty(BODY.repeat(9) + DAY + BODY, 3, 160);
    }

    private static void nobody() {
        faulty("", 4, 0);
        faulty(" ", 4, 1);
        faulty(DAY, 4, 7);
        faulty(DAY + "  ", 4, 9);
        faulty("breath 0;stride 1;day 30;", 4, 25);
    }

    private static void firstAndLeastFault() {
        // the first from the left, whatever its number
        faulty("body 16 0 1 1 0 0;x", 2, 5);
        faulty("x body 16", 1, 0);
        faulty("body 0 16 x", 2, 7);
        faulty("body x 16", 1, 5);
        faulty("body 16 16 0 0 100 100", 2, 5);
        faulty(BODY + "joint 0 0", 2, 25);
        faulty(BODY + "joint 1 1", 2, 23);
        // of one place the least
        faulty(DAY.repeat(40) + "x", 1, 280);
        faulty("day 30", 1, 6);
    }

    private static void tape() {
        LentMinds x = new LentMinds();
        Checks.due("an empty tape", x.count(5), 0);
        for (int i = 1; i <= 25; i++) {
            Checks.due("feed " + i, x.feed(-1, i, 0x20202020, Integer.MIN_VALUE, Integer.MAX_VALUE), 20 * i);
            Checks.due("bytes " + i, x.count(5), 20 * i);
        }
        Checks.due("one more", x.feed(0, 0, 0, 0, 0), -1);
        Checks.due("and again", x.feed(0, 0, 0, 0, 0), -1);
        Checks.due("nothing done", x.count(5), 500);
        Checks.due("the first byte is as it was", x.house(500), -9);
        Checks.due("its place", x.fault(), 0);
        Checks.due("room again", x.feed(0, 0, 0, 0, 0), 20);
        // nothing is done to what stands at the end of a full tape
        LentMinds y = new LentMinds();
        Checks.feed(y, " ".repeat(480));
        Checks.feed(y, " ".repeat(3) + BODY);
        Checks.due("one more", y.feed(0x3b3b3b3b, 0x3b3b3b3b, 0x3b3b3b3b, 0x3b3b3b3b, 0x3b3b3b3b), -1);
        Checks.due("the house that stands there", y.house(500), 1);
    }

    private static void bytesOfTheTape() {
        // "body" "9 8 " "7 6 " "5 4 " ";   ": the highest byte of each number first, the numbers in their order
        LentMinds x = new LentMinds();
        x.feed(0x626f6479, 0x39203820, 0x37203620, 0x35203420, 0x3b202020);
        Checks.due("five numbers", x.house(20), 1);
        for (int what = 0; what < 6; what++) {
            Checks.due("number " + what, x.body(0, what), 9 - what);
        }
        // a byte above 127 is one that can't stand there, and does not touch the ones beside it
        LentMinds y = new LentMinds();
        y.feed(0x20202020, 0x202020ff, 0x80202020, 0, 0);
        Checks.due("a high byte", y.house(12), -9);
        Checks.due("its place", y.fault(), 7);
    }

    private static void howManyBytes() {
        LentMinds x = new LentMinds();
        Checks.due("house(0) of an empty tape", x.house(0), -6);
        Checks.due("its place", x.fault(), 0);
        for (int n : new int[] {-1, 1, Integer.MIN_VALUE, Integer.MAX_VALUE}) {
            Checks.refusedAndStays("house(" + n + ") of an empty tape", x, () -> x.house(n), "IllegalArgumentException");
        }
        Checks.feed(x, BODY + DAY);
        Checks.due("bytes", x.count(5), 40);
        for (int n : new int[] {-1, 41, Integer.MIN_VALUE, Integer.MAX_VALUE}) {
            Checks.refusedAndStays("house(" + n + ") of 40 bytes", x, () -> x.house(n), "IllegalArgumentException");
        }
        Checks.due("the first 17", x.house(17), 1);
        Checks.due("the rest is not told", x.told(3), 480);
        Checks.due("the tape is empty", x.count(5), 0);
        Checks.feed(x, BODY + DAY);
        Checks.due("all 40, with bytes 0", x.house(40), -9);
        Checks.due("the first of them", x.fault(), 24);
        Checks.due("the tape is empty behind a fault, too", x.count(5), 0);
        Checks.feed(x, BODY);
        Checks.due("none of 20", x.house(0), -6);
        Checks.due("the tape is empty behind none, too", x.count(5), 0);
        Checks.due("the house of 17 stays", x.told(0), 1);
    }

    private static LentMinds livedIn() {
        LentMinds x = Checks.house("body 3 4 1 9 3 4;body 0 0 2 9 3 4;joint 0 1;body 9 9 3 9 1 1;habit 2 2;sleep 1 2 5;"
            + "breath 2;stride 3;day 99;");
        x.minutes(3);
        x.pass(2);
        x.bed(1, true);
        x.passing(5, 1);
        x.spot(2, 2);
        x.image();
        x.minutes(1);
        return x;
    }

    private static void faultsStay() {
        String[] texts = {"body 1 1 1 1 1 1;x", "body 1 1 1 1 1 1;day 1;", BODY.repeat(10), "", "day 30;breath 0;stride 1;"};
        int[] faults = {-9, -8, -7, -6, -6};
        int[] places = {17, 21, 153, 0, 25};
        for (int i = 0; i < texts.length; i++) {
            LentMinds x = livedIn();
            String before = Checks.picture(x);
            Checks.due("house of '" + texts[i] + "'", Checks.tell(x, texts[i]), faults[i]);
            Checks.due("all but the fault", Checks.picture(x), before.replace("fault -1 ", "fault " + places[i] + " "));
            Checks.due("the image, too", x.restore(), 0);
            Checks.due("as it was", x.count(0), 3);
        }
    }

    private static void thrownHouseStays() {
        LentMinds x = livedIn();
        Checks.due("a fault", Checks.tell(x, "day 30;"), -6);
        Checks.feed(x, BODY);
        Checks.refusedAndStays("house(21)", x, () -> x.house(21), "IllegalArgumentException");
        Checks.due("the fault of the one ahead", x.fault(), 7);
        Checks.due("the tape is what it was", x.house(17), 1);
        Checks.due("no fault", x.fault(), -1);
    }

    /** A new house has nothing of the ones ahead of it, good or faulty. */
    private static void nothingLeftOver() {
        LentMinds x = livedIn();
        String full = "body 1 1 9 9 9 9;body 1 1 9 9 9 9;joint 0 1;habit 0 3;habit 1 3;sleep 0 0 9;sleep 1 0 9;"
            + "cries 0 9 9;cries 1 9 9;breath 7;stride 7;day 77;";
        Checks.due("a full one", Checks.tell(x, full), 2);
        Checks.due("a faulty one", Checks.tell(x, full + "x"), -9);
        Checks.due("a plain one", Checks.tell(x, BODY + BODY), 2);
        Checks.due("is as a new object's", Checks.picture(x), Checks.picture(Checks.house(BODY + BODY)));
        Checks.due("no cries", x.trust(0, 10) + x.trust(1, 10), -2);
        Checks.due("no image", x.restore(), -1);
        x.minutes(1);
        Checks.due("done in it", x.now(0, 4), 1);
        Checks.due("a plain one once more", Checks.tell(x, BODY + BODY), 2);
        Checks.due("nobody is done", x.day(2) + x.now(0, 4) + x.now(0, 1), 0);
    }
}
