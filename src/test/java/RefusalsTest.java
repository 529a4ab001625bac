/**
 * "What is refused answers as told and changes nothing but STATUS.": every refusal that a promise names, on an object in which
 * there is something of everything, held against a twin that was not called; and calls that only ask, which change nothing at all.
 */
public final class RefusalsTest {
    private static final Told TOLD = new Told("refusals");
    private static final int NONE = CrossedFavours.NONE;
    private static final int HIDDEN = CrossedFavours.HIDDEN;
    private static final int NO_STATUS = -1;

    private RefusalsTest() {
    }

    /** How an object comes to be as it is ahead of the call. */
    private interface Start {
        CrossedFavours make();
    }

    private interface Call {
        long on(CrossedFavours x);
    }

    public static void main(String[] args) {
        TOLD.says("What is refused answers as told and changes nothing but STATUS.");
        texts();
        acts();
        actsThatCannotBe();
        questions();
        moreQuestions();
        withoutAVillage();
        asking();
        TOLD.close();
    }

    private static void refused(String what, Start start, long answer, int reason, Call call) {
        CrossedFavours x = start.make();
        CrossedFavours twin = start.make();
        TOLD.due(what, answer, call.on(x));
        int counted = reason == NO_STATUS ? 0 : twin.status(reason);
        String want = Look.through(twin);
        if (reason != NO_STATUS) {
            want = want.replace("status " + reason + ": " + counted + "\n", "status " + reason + ": " + (counted + 1) + "\n");
        }
        TOLD.due(what, want, Look.through(x));
    }

    // ---- objects

    /** Laws, songs, a law that holds, grace, some status and a tape, but no village. */
    private static CrossedFavours nothing() {
        CrossedFavours x = new CrossedFavours();
        Told.text(x, 1, "y:3");
        Told.text(x, 2, "01");
        x.law(0);
        x.grace(4);
        x.cross(0);
        Told.tape(x, "p;");
        return x;
    }

    /** Something of everything; 2 is kept, 1 is full, songs have 2, 1 and 9 digits, the second can't be. */
    private static CrossedFavours village() {
        CrossedFavours x = Told.singing("sc30m4;pw2;pt5;pw4k1;p;fn2;fa1b2n3;fa3b0", "03", "9", "030303030");
        Told.text(x, 1, "y:2");
        Told.text(x, 1, "y:t");
        x.law(1);
        x.grace(5);
        x.cross(0);
        x.cross(0);
        x.gives(0, 3, 2);
        x.keep(3);
        x.seen(0, 1, 1, 7, false);
        x.image();
        x.keep(3);
        x.give(9);
        x.forgives(0, 3);
        x.cross(7);
        x.gives(0, 0, 1);
        x.forgives(0, 2);
        x.cross(1);
        Told.tape(x, "abc");
        return x;
    }

    private static CrossedFavours poor() {
        CrossedFavours x = Told.village("sc0;p;p;f");
        x.keep(0);
        x.keep(0);
        return x;
    }

    private static CrossedFavours bare() {
        CrossedFavours x = Told.village(Texts.SOON_BARE);
        x.cross(0);
        return x;
    }

    private static CrossedFavours rich() {
        CrossedFavours x = Told.village("sc99;p;p;f");
        for (int i = 0; i < 18; i++) {
            x.give(50);
        }
        return x;
    }

    /** Crossings stand at 9,999; the acts and most of the log are gone, as the object is called often enough. */
    private static CrossedFavours atTheLast() {
        CrossedFavours x = Told.ruled("p;p;f", "y:0");
        x.grace(0);
        for (int i = 0; i < 333; i++) {
            x.years(30, i);
        }
        x.years(9, 1);
        x.image();
        x.back();
        return x;
    }

    private static CrossedFavours withTenSeen() {
        CrossedFavours x = village();
        for (int i = 1; i < 10; i++) {
            x.seen(0, 1, i, 99, false);
        }
        return x;
    }

    private static CrossedFavours withFour(int sort, String next) {
        CrossedFavours x = Told.village("p;p;f");
        for (int i = 0; i < 4; i++) {
            Told.text(x, sort, sort == 1 ? "y:" + i : "" + i);
        }
        Told.tape(x, next);
        return x;
    }

    private static CrossedFavours withTape(int bytes) {
        CrossedFavours x = Told.village("p;p;f");
        Told.tape(x, "0".repeat(bytes));
        return x;
    }

    // ---- promises 2 to 10

    private static void texts() {
        refused("2 one byte too many", () -> withTape(240), NONE, NO_STATUS, x -> x.feed(0, 0, 0, 0, '1'));
        refused("2 twenty bytes, one too many", () -> withTape(221), NONE, NO_STATUS, x -> x.feed(-1, -1, -1, -1, -1));
        refused("3 one too far", () -> withTape(16), 0, NO_STATUS, x -> x.end(17) ? 1 : 0);
        refused("3 below none", () -> withTape(16), 0, NO_STATUS, x -> x.end(-1) ? 1 : 0);
        refused("4 no such sort", () -> withTape(16), -2, NO_STATUS, x -> x.fault(3));
        refused("4 no such sort", () -> withTape(16), -2, NO_STATUS, x -> x.fault(-1));
        refused("5 no village", RefusalsTest::village, NONE, NO_STATUS, x -> x.text(0));
        refused("5 no law", RefusalsTest::village, NONE, NO_STATUS, x -> x.text(1));
        refused("5 no song", RefusalsTest::village, NONE, NO_STATUS, x -> x.text(2));
        refused("5 no such sort", () -> withTape(16), NONE, NO_STATUS, x -> x.text(3));
        refused("5 a fifth law", () -> withFour(1, "y:9"), NONE, NO_STATUS, x -> x.text(1));
        refused("5 a fifth song", () -> withFour(2, "9"), NONE, NO_STATUS, x -> x.text(2));
        refused("6 no such house", RefusalsTest::village, Told.THROWN, NO_STATUS, x -> Told.house(x, 4, 0));
        refused("6 no such what", RefusalsTest::village, Told.THROWN, NO_STATUS, x -> Told.house(x, 0, 7));
        refused("7 no such house", RefusalsTest::village, HIDDEN, NO_STATUS, x -> x.owes(0, 4));
        refused("8 no such law", RefusalsTest::village, 0, NO_STATUS, x -> x.law(2) ? 1 : 0);
        refused("8 no such law", RefusalsTest::village, 0, NO_STATUS, x -> x.law(-2) ? 1 : 0);
        refused("9 no such song", RefusalsTest::village, NONE, NO_STATUS, x -> x.sung(3, 0));
        refused("9 no such digit", RefusalsTest::village, NONE, NO_STATUS, x -> x.sung(0, 2));
        refused("10 out of bounds", RefusalsTest::village, 0, NO_STATUS, x -> x.grace(10) ? 1 : 0);
        refused("10 out of bounds", RefusalsTest::village, 0, NO_STATUS, x -> x.grace(-1) ? 1 : 0);
        refused("10 it is so", RefusalsTest::village, 0, NO_STATUS, x -> x.grace(5) ? 1 : 0);
    }

    // ---- promises 11 to 20

    private static void acts() {
        refused("12 no such song", RefusalsTest::village, NONE, 0, x -> x.sing(3));
        refused("12 none can be", RefusalsTest::village, 0, NO_STATUS, x -> x.sing(1));
        refused("12 none can be for coins", () -> {
            CrossedFavours x = poor();
            Told.text(x, 2, "01");
            return x;
        }, 0, NO_STATUS, x -> x.sing(0));
        refused("13 no such house", RefusalsTest::village, HIDDEN, 0, x -> x.gives(0, 4, 1));
        refused("13 alike", RefusalsTest::village, HIDDEN, 1, x -> x.gives(3, 3, 1));
        refused("13 out of bounds", RefusalsTest::village, HIDDEN, 1, x -> x.gives(0, 3, 0));
        refused("13 out of bounds", RefusalsTest::village, HIDDEN, 1, x -> x.gives(0, 3, 10));
        refused("13 full", RefusalsTest::village, HIDDEN, 3, x -> x.gives(1, 2, 2));
        refused("14 no such house", RefusalsTest::village, HIDDEN, 0, x -> x.forgives(4, 0));
        refused("14 alike", RefusalsTest::village, HIDDEN, 1, x -> x.forgives(1, 1));
        refused("14 there is none", RefusalsTest::village, HIDDEN, 2, x -> x.forgives(2, 3));
        refused("15 no such house", RefusalsTest::village, NONE, 0, x -> x.keep(4));
        refused("16 out of bounds", RefusalsTest::village, NONE, 1, x -> x.give(0));
        refused("16 out of bounds", RefusalsTest::village, NONE, 1, x -> x.give(51));
        refused("16 above 999", RefusalsTest::rich, NONE, 3, x -> x.give(1));
        refused("17 out of bounds", RefusalsTest::village, NONE, NO_STATUS, x -> x.years(0, 1));
        refused("17 out of bounds", RefusalsTest::village, NONE, NO_STATUS, x -> x.years(31, 1));
        refused("18 no such what", RefusalsTest::village, NONE, NO_STATUS, x -> x.status(6));
        refused("19 none", () -> Told.village("p;p;f"), NONE, NO_STATUS, CrossedFavours::undo);
        refused("20 no such one", RefusalsTest::village, NONE, NO_STATUS, x -> x.log(2, 0));
        refused("20 no such what", RefusalsTest::village, NONE, NO_STATUS, x -> x.log(0, 3));
    }

    private static void actsThatCannotBe() {
        refused("11 no such house", RefusalsTest::village, NONE, 0, x -> x.cross(4));
        refused("11 kept", RefusalsTest::village, NONE, 2, x -> x.cross(2));
        refused("11 full", RefusalsTest::village, NONE, 3, x -> x.cross(1));
        refused("11 bare", RefusalsTest::bare, NONE, 3, x -> x.cross(0));
        refused("11 too few coins", RefusalsTest::poor, NONE, 4, x -> x.cross(0));
        // these objects have been called too often for a long look: a short one
        CrossedFavours last = atTheLast();
        TOLD.due("11 beyond the last", NONE, last.cross(0));
        TOLD.due("17 beyond the last", NONE, last.years(1, 1));
        CrossedFavours twin = atTheLast();
        for (int what = 0; what < 12; what++) {
            TOLD.due("count " + what + " beyond the last", twin.count(what), last.count(what));
        }
        for (int what = 0; what < 6; what++) {
            TOLD.due("status " + what + " beyond the last", what == 5 ? 1 : 0, last.status(what));
            TOLD.due("house 0, " + what, Told.house(twin, 0, what), Told.house(last, 0, what));
        }
        TOLD.due("owes beyond the last", twin.owes(0, 1), last.owes(0, 1));
        for (int i = 0; i < 60; i++) {
            TOLD.due("log " + i + " beyond the last", twin.log(i, 0), last.log(i, 0));
        }
    }

    // ---- promises 21 to 39

    private static void questions() {
        Start start = RefusalsTest::village;
        refused("21 it can't be", start, HIDDEN, NO_STATUS, x -> x.after(1, 1, 0, 1));
        refused("21 no such song", start, HIDDEN, NO_STATUS, x -> x.after(3, 1, 0, 1));
        refused("21 no such house", start, HIDDEN, NO_STATUS, x -> x.after(0, 1, 4, 1));
        refused("21 out of bounds", start, HIDDEN, NO_STATUS, x -> x.after(0, 61, 0, 1));
        refused("22 it can't be", start, HIDDEN, NO_STATUS, x -> x.worthAfter(1, 1, 0));
        refused("22 no such song", start, HIDDEN, NO_STATUS, x -> x.worthAfter(3, 1, 0));
        refused("22 no such house", start, HIDDEN, NO_STATUS, x -> x.worthAfter(0, 1, 4));
        refused("22 out of bounds", start, HIDDEN, NO_STATUS, x -> x.worthAfter(0, -1, 0));
        refused("23 it can't be", start, NONE, NO_STATUS, x -> x.again(1, 0));
        refused("23 no such song", start, NONE, NO_STATUS, x -> x.again(3, 0));
        refused("23 no such what", start, NONE, NO_STATUS, x -> x.again(0, 2));
        refused("24 it can't be", start, NONE, NO_STATUS, x -> x.like(1));
        refused("24 no such song", start, NONE, NO_STATUS, x -> x.like(3));
        refused("25 out of bounds", start, NONE, NO_STATUS, x -> x.reach(5));
        refused("26 no such what", start, NONE, NO_STATUS, x -> x.straight(2));
        refused("26 not by four", () -> Told.village("pk1;pk1;pk1;f;fa1b2;fa2b0"), NONE, NO_STATUS, x -> x.straight(0));
        refused("27 out of bounds", start, NONE, NO_STATUS, x -> x.fewest(5, 0));
        refused("27 no such what", start, NONE, NO_STATUS, x -> x.fewest(0, 2));
        refused("28 there is none", start, NONE, NO_STATUS, CrossedFavours::ring);
        refused("29 by none", start, NONE, NO_STATUS, x -> x.chain(2, 0));
        refused("29 no such house", start, NONE, NO_STATUS, x -> x.chain(0, 4));
    }

    private static void moreQuestions() {
        Start start = RefusalsTest::village;
        refused("30 no such house", start, NONE, NO_STATUS, x -> x.seen(0, 4, 1, 0, true));
        refused("30 alike", start, NONE, NO_STATUS, x -> x.seen(0, 0, 1, 0, true));
        refused("30 out of bounds", start, NONE, NO_STATUS, x -> x.seen(0, 1, 10, 0, true));
        refused("30 out of bounds", start, NONE, NO_STATUS, x -> x.seen(0, 1, 1, 100, true));
        refused("30 there are ten", RefusalsTest::withTenSeen, NONE, NO_STATUS, x -> x.seen(0, 1, 1, 50, true));
        refused("32 nothing fits", () -> Told.village("p;p;f"), NONE, NO_STATUS, x -> x.ask(0, 1));
        refused("32 no such house", start, NONE, NO_STATUS, x -> x.ask(0, 4));
        refused("32 alike", start, NONE, NO_STATUS, x -> x.ask(1, 1));
        refused("33 no such house", start, HIDDEN, NO_STATUS, x -> x.game(0, 4, 1, 1, 0));
        refused("33 alike", start, HIDDEN, NO_STATUS, x -> x.game(1, 1, 1, 1, 0));
        refused("33 out of bounds", start, HIDDEN, NO_STATUS, x -> x.game(0, 1, 1, 2, 0));
        refused("34 no such one", start, NONE, NO_STATUS, x -> x.rests(0, 1, 4));
        refused("34 no such house", start, NONE, NO_STATUS, x -> x.rests(0, 4, NONE));
        refused("34 alike", start, NONE, NO_STATUS, x -> x.rests(1, 1, NONE));
        refused("35 no such song", start, NONE, NO_STATUS, x -> x.odds(3, 50));
        refused("35 nine digits", start, NONE, NO_STATUS, x -> x.odds(2, 50));
        refused("35 out of bounds", start, NONE, NO_STATUS, x -> x.odds(0, 101));
        refused("36 no such house", start, NONE, NO_STATUS, x -> x.shares(4, 1));
        refused("36 out of bounds", start, NONE, NO_STATUS, x -> x.shares(0, 1000));
        refused("37 no such what", start, HIDDEN, NO_STATUS, x -> x.all(14));
        refused("37 levels of a ring", () -> Told.village("p;p;p;f;fa1b2;fa2b0"), NONE, NO_STATUS, x -> x.all(12));
        refused("39 no image", RefusalsTest::bare, NONE, NO_STATUS, CrossedFavours::back);
        refused("40 others", start, HIDDEN, NO_STATUS, x -> x.count(12));
    }

    private static void withoutAVillage() {
        Start none = RefusalsTest::nothing;
        refused("5 a fault", none, NONE, NO_STATUS, x -> x.text(0));
        refused("6 no village", none, Told.THROWN, NO_STATUS, x -> Told.house(x, 0, 6));
        refused("7 no village", none, HIDDEN, NO_STATUS, x -> x.owes(0, 1));
        refused("11 no village", none, NONE, 0, x -> x.cross(0));
        refused("12 no village", none, NONE, 0, x -> x.sing(0));
        refused("13 no village", none, HIDDEN, 0, x -> x.gives(0, 1, 1));
        refused("14 no village", none, HIDDEN, 0, x -> x.forgives(0, 1));
        refused("15 no village", none, NONE, 0, x -> x.keep(0));
        refused("16 no village", none, NONE, 0, x -> x.give(1));
        refused("17 no village", none, NONE, NO_STATUS, x -> x.years(1, 1));
        refused("19 no village", none, NONE, NO_STATUS, CrossedFavours::undo);
        refused("20 no village", none, NONE, NO_STATUS, x -> x.log(0, 0));
        refused("21 no village", none, HIDDEN, NO_STATUS, x -> x.after(0, 0, 0, 1));
        refused("22 no village", none, HIDDEN, NO_STATUS, x -> x.worthAfter(0, 0, 0));
        refused("23 no village", none, NONE, NO_STATUS, x -> x.again(0, 0));
        refused("24 no village", none, NONE, NO_STATUS, x -> x.like(0));
        refused("25 no village", none, NONE, NO_STATUS, x -> x.reach(0));
        refused("26 no village", none, NONE, NO_STATUS, x -> x.straight(0));
        refused("27 no village", none, NONE, NO_STATUS, x -> x.fewest(0, 0));
        refused("28 no village", none, NONE, NO_STATUS, CrossedFavours::ring);
        refused("29 no village", none, NONE, NO_STATUS, x -> x.chain(0, 0));
        refused("30 no village", none, NONE, NO_STATUS, x -> x.seen(0, 1, 1, 0, true));
        refused("31 no village", none, NONE, NO_STATUS, CrossedFavours::fits);
        refused("32 no village", none, NONE, NO_STATUS, x -> x.ask(0, 1));
        refused("33 no village", none, HIDDEN, NO_STATUS, x -> x.game(0, 1, 0, 0, 0));
        refused("34 no village", none, NONE, NO_STATUS, x -> x.rests(0, 1, NONE));
        refused("35 no village", none, NONE, NO_STATUS, x -> x.odds(0, 0));
        refused("36 no village", none, NONE, NO_STATUS, x -> x.shares(0, 0));
        refused("37 no village", none, HIDDEN, NO_STATUS, x -> x.all(5));
        refused("38 no village", none, NONE, NO_STATUS, CrossedFavours::image);
        refused("39 no village", none, NONE, NO_STATUS, CrossedFavours::back);
    }

    // ---- calls that only ask

    private static void asks(String what, Call call) {
        CrossedFavours x = village();
        CrossedFavours twin = village();
        long answer = call.on(x);
        TOLD.due(what + " again", answer, call.on(x));
        TOLD.due(what, Look.through(twin), Look.through(x));
    }

    private static void asking() {
        TOLD.says("(Apart, from as it is now;");
        asks("4 fault", x -> x.fault(0) + x.fault(1) + x.fault(2));
        asks("6 house", x -> Told.house(x, 1, 6));
        asks("21 after", x -> x.after(0, 3, 0, 3));
        asks("22 worthAfter", x -> x.worthAfter(0, 3, 0));
        asks("23 again", x -> x.again(0, 1));
        asks("24 like", x -> x.like(0));
        asks("25 reach", x -> x.reach(4));
        asks("26 straight", x -> x.straight(1));
        asks("27 fewest", x -> x.fewest(4, 1));
        asks("28 ring", CrossedFavours::ring);
        asks("29 chain", x -> x.chain(0, 2));
        asks("31 fits", CrossedFavours::fits);
        asks("32 ask", x -> x.ask(0, 3));
        asks("33 game", x -> x.game(0, 3, 1, 1, 1));
        asks("34 rests", x -> x.rests(0, 3, NONE));
        asks("35 odds", x -> x.odds(0, 40));
        asks("36 shares", x -> x.shares(0, 100));
        for (int what = 0; what < 14; what++) {
            int number = what;
            asks("37 all " + what, x -> x.all(number));
        }
    }
}
