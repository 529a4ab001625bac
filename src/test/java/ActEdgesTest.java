import java.math.BigInteger;

/** Of crossings and the other acts (part 2 of the terms, promises 6 to 20), each sentence that names a boundary, in the document's words. */
public final class ActEdgesTest {
    private static final Told TOLD = new Told("edges of acts");
    private static final int NONE = CrossedFavours.NONE;
    private static final int HIDDEN = CrossedFavours.HIDDEN;
    private static final int LAST = 9999;
    private static final int[] FAR = {-1, Integer.MIN_VALUE, Integer.MAX_VALUE};

    private ActEdgesTest() {
    }

    public static void main(String[] args) {
        owing();
        crossing();
        worths();
        whatCannotBe();
        costs();
        lettersGoRound();
        coinsAndTheLast();
        logOfSixty();
        singing();
        givingFavours();
        forgiving();
        keeping();
        givingCoins();
        undoing();
        statusOfSeveral();
        standing();
        TOLD.close();
    }

    private static void due(String call, long want, long got) {
        TOLD.due(call, want, got);
    }

    private static void due(String call, boolean want, boolean got) {
        TOLD.due(call, want, got);
    }

    private static void statuses(CrossedFavours x, int... want) {
        for (int what = 0; what < want.length; what++) {
            due("status " + what, want[what], x.status(what));
        }
    }

    /** An object whose crossings cost nothing. */
    private static CrossedFavours free(String village) {
        return Told.ruled(village, "y:0");
    }

    // ---- crossings

    private static void owing() {
        TOLD.says("OWES of one HOUSE to another: how many favours it owes that one, less how many that one owes it "
            + "(all FAVOURS told between both together); of itself: 0.");
        CrossedFavours x = Told.village("p;p;p;p;p;p;fn9;fn4;fa1b0n6;fa5b4n2;fa4b5n2");
        due("less", 7, x.owes(0, 1));
        due("below 0", -7, x.owes(1, 0));
        due("to and fro is quits", 0, x.owes(4, 5));
        due("nothing told", 0, x.owes(2, 3));
        for (int house = 0; house < 6; house++) {
            due("of itself " + house, 0, x.owes(house, house));
        }
        TOLD.says("OWES (below 0: it is owed). HIDDEN: no such HOUSES.");
        due("the first behind the last", HIDDEN, x.owes(6, 0));
        due("the second behind the last", HIDDEN, x.owes(0, 6));
        for (int far : FAR) {
            due("first " + far, HIDDEN, x.owes(far, 0));
            due("second " + far, HIDDEN, x.owes(0, far));
            due("both " + far, HIDDEN, x.owes(far, far));
        }
        due("the last of two", 0, Told.village("p;p").owes(1, 1));
        due("the third of two", HIDDEN, Told.village("p;p").owes(2, 2));
    }

    private static void crossing() {
        TOLD.says("of each two other HOUSES, if the first OWES it above 0 and it OWES the second above 0, "
            + "the first OWES the second more by the one times the other (and the second the first as much less)");
        // 0 and 3 owe 1 (twice, once), 1 owes 2 and 4 (three times, once), 5 has nothing to do with it, 2 owes 0 once
        CrossedFavours x = free("p;p;p;p;p;p;fn2;fa3b1;fa1b2n3;fa1b4;fa2b0;fa5b0n2");
        x.cross(1);
        int[][] want = {
            {0, -2, 5, 0, 2, -2}, {2, 0, -3, 1, -1, 0}, {-5, 3, 0, -3, 0, 0}, {0, -1, 3, 0, 1, 0}, {-2, 1, 0, -1, 0, 0}, {2, 0, 0, 0, 0, 0}
        };
        for (int i = 0; i < 36; i++) {
            due("owes " + i / 6 + "," + i % 6, want[i / 6][i % 6], x.owes(i / 6, i % 6));
        }
        TOLD.says("what others OWE it is as much below 0 as it was above, or above as it was below");
        CrossedFavours y = free("p;p;p;fn9;fb2n3");
        y.cross(0);
        due("turned", -9, y.owes(0, 1));
        due("turned", -3, y.owes(0, 2));
        due("nothing comes of two whom it owed", 0, y.owes(1, 2));
        y.cross(1);
        due("turned", 9, y.owes(0, 1));
        y.cross(2);
        due("turned", 3, y.owes(0, 2));
        CrossedFavours apart = free("p;p;p;f");
        apart.cross(2);
        due("0 stays 0", 0, apart.owes(2, 0));
        due("others as they were", 1, apart.owes(0, 1));
    }

    private static void worths() {
        TOLD.says("its WORTH is then that number of 0 .. 1,000,002 which, times its WORTH ahead of that, "
            + "leaves divided by 1,000,003 (a prime) what AHEAD and BEHIND added up leave");
        due("the lowest", 0, free(Texts.SOON_BARE).cross(0));
        CrossedFavours high = free(Texts.SOON_BARE);
        high.cross(0);
        due("the highest: 0 and a million, by 3", 1000002, high.cross(3));
        due("1000002 to the 6th, which is as -1 to it, and 1, by 2", 1, high.cross(1));
        // 9 to the 9th is 387,420,489, which leaves 419,328
        due("gone round", 419329, free("p;pw9;fa1b0n9").cross(0));
        due("gone round, both", 838656, free("sm99;p;pw9;pw9;fa1b0n9;fb2n9").cross(0));
        CrossedFavours seven = free("pw7;p");
        long worth = seven.cross(0);
        due("times its worth", 2, worth * 7 % 1000003);
        due("and back", 7, seven.cross(0));
        highPowers();
        highProducts();
        TOLD.says("AHEAD: WORTHS of all who OWE it above 0, each as often as it OWES, times one another; "
            + "BEHIND: WORTHS of all whom it OWES above 0, likewise (nobody: 1)");
        due("nobody, nobody", 2, free("p;pw9;pw9").cross(0));
        due("nobody ahead", 82, free("p;pw9;pw5;fn2").cross(0));
        due("nobody behind", 82, free("p;pw9;pw5;fa1b0n2").cross(0));
        due("2 three times and 5 ahead, 7 twice behind", 89, free("p;pw2;pw5;pw7;pw9;fa1b0n3;fa2b0;fb3n2").cross(0));
        TOLD.says("all as they were ahead of the crossing");
        CrossedFavours x = free("pw2;p;pw3;f;fa1b2");
        due("2 and 3", 5, x.cross(1));
        due("5 and 3 once, by 2", 4, x.cross(0));
        due("the others' stay", 3, Told.house(x, 2, 0));
    }

    private static final BigInteger PRIME = BigInteger.valueOf(1000003);

    /** A great WORTH as often as can be, each way. */
    private static void highPowers() {
        for (int times = 9; times <= 99; times++) {
            CrossedFavours x = free("sm99;p;pw9;fa1b0n9");
            BigInteger worth = BigInteger.valueOf(x.cross(0));
            for (int more = times - 9; more > 0; more -= 9) {
                x.gives(0, 1, Math.min(9, more));
            }
            BigInteger want = worth.pow(times).add(BigInteger.ONE).multiply(BigInteger.valueOf(9).modInverse(PRIME)).mod(PRIME);
            due("owed by a great worth " + times + " times", want.longValue(), x.cross(1));
            due("and back, owing it", 9, x.cross(1));
        }
    }

    /** Great WORTHS times one another: a house apart of WORTH w comes to be 2 by w. */
    private static void highProducts() {
        CrossedFavours ahead = free("sm99;pw3;pw7;pw9;pw6;pw8;p");
        CrossedFavours behind = free("sm99;pw3;pw7;pw9;pw6;pw8;p");
        BigInteger product = BigInteger.ONE;
        for (int house = 0; house < 5; house++) {
            long worth = ahead.cross(house);
            due("great", true, worth > 100000 && worth == behind.cross(house));
            ahead.gives(house, 5, house + 1);
            behind.gives(5, house, house + 1);
            product = product.multiply(BigInteger.valueOf(worth).pow(house + 1));
        }
        long want = product.add(BigInteger.ONE).mod(PRIME).longValue();
        due("great ones ahead", want, ahead.cross(5));
        due("great ones behind", want, behind.cross(5));
    }

    private static void whatCannotBe() {
        TOLD.says("It can't be CROSSED, if it is KEPT, or BARE (WORTH 0), or FULL (any two would have more favours between them than there may be).");
        CrossedFavours kept = free("pk1;p");
        due("kept", NONE, kept.cross(0));
        due("can", 2, kept.all(11));
        kept.keep(0);
        due("not any more", 2, kept.cross(0));
        CrossedFavours bare = free(Texts.SOON_BARE);
        bare.cross(0);
        due("bare", NONE, bare.cross(0));
        due("can", 14, bare.all(11));
        due("as many as there may be", 2, free("sm6;p;p;p;fn2;fa1b2n3").cross(1));
        CrossedFavours full = free("sm5;p;p;p;fn2;fa1b2n3");
        due("one more than there may be", NONE, full.cross(1));
        due("full", 1, full.status(3));
        due("can", 5, full.all(11));
        due("less by what there is the other way", 2, free("sm5;p;p;p;fn2;fa1b2n3;fa2b0").cross(1));
        due("more by what there is that way", NONE, free("sm6;p;p;p;fn2;fa1b2n3;fb2").cross(1));
        due("once times as many as may be, and one there is", NONE, free("sm3;p;p;p;f;fa1b2n3;fb2").cross(1));
        due("as many as may be times once, and one there is", NONE, free("sm3;p;p;p;fn3;fa1b2;fb2").cross(1));
        due("once times once, and as many as may be", NONE, free("sm3;p;p;p;f;fa1b2;fb2n3").cross(1));
        due("once times once, and one fewer", 2, free("sm3;p;p;p;f;fa1b2;fb2n2").cross(1));
        due("the last two of six", NONE, free("sm3;p;p;p;p;p;p;fa4b0n2;fb5n2").cross(0));
        due("the last two of six the other way", NONE, free("sm3;p;p;p;p;p;p;fa5b0n2;fb4n2").cross(0));
        due("the most of all", NONE, free("sm99;p;p;p" + ";fn9".repeat(5) + ";fa1b2n9".repeat(5)).cross(1));
        due("all that may be stands between two who turn", 2, free("sm9;p;p;fn9").cross(0));
        TOLD.says("NONE: no such HOUSE (STATUS 0), KEPT (2), BARE, FULL (3), too few COINS (4), beyond 9,999 (5).");
        CrossedFavours x = Told.village("sc0;p;pk1");
        due("behind the last", NONE, x.cross(2));
        for (int far : FAR) {
            due("house " + far, NONE, x.cross(far));
        }
        due("kept", NONE, x.cross(1));
        due("coins", NONE, x.cross(0));
        statuses(x, 4, 0, 1, 0, 1, 0);
        due("nothing was crossed", 0, x.count(6));
        due("no village", NONE, new CrossedFavours().cross(0));
    }

    private static void costs() {
        TOLD.says("letters: i IN (what all who OWE it above 0 OWE it, together), o OUT (what it OWES above 0, together), t TEMPER");
        String village = "pt9;pt0;pt5;p;fn2;fb2n3;fa3b0n4;fa1b2";
        int[][] want = {{4, 5, 9}, {2, 1, 0}, {4, 0, 5}, {0, 4, 2}};
        for (int what = 0; what < 3; what++) {
            CrossedFavours x = Told.ruled(village, "y:" + "iot".charAt(what));
            for (int house = 0; house < 4; house++) {
                due("iot".charAt(what) + " of " + house, want[house][what], Told.house(x, house, 6));
            }
        }
        CrossedFavours most = Told.ruled("sm99;p;p" + ";fn9".repeat(11), "y:o-90");
        due("99 out", 9, Told.house(most, 0, 6));
        due("none out", 0, Told.house(most, 1, 6));
    }

    private static void lettersGoRound() {
        TOLD.says("n how often it was CROSSED (modulo 100), w its WORTH modulo 100, d CROSSINGS in all modulo 100");
        CrossedFavours x = free("p;p");
        Told.text(x, 1, "y:n-90");
        Told.text(x, 1, "y:d-90");
        Told.text(x, 1, "y:n+n+n+d");
        for (int i = 0; i < 99; i++) {
            x.cross(0);
        }
        x.law(1);
        due("n 99", 9, Told.house(x, 0, 6));
        due("n of the other", 0, Told.house(x, 1, 6));
        x.law(2);
        due("d 99", 9, Told.house(x, 1, 6));
        x.law(0);
        x.cross(0);
        x.law(3);
        due("n and d 100", 0, Told.house(x, 0, 6));
        x.law(0);
        x.cross(1);
        x.law(3);
        due("n 100, d 101", 1, Told.house(x, 0, 6));
        due("n 1, d 101", 4, Told.house(x, 1, 6));
        due("how often is told whole", 100, Told.house(x, 0, 3));
        due("crossings are told whole", 101, x.count(6));
        CrossedFavours worth = Told.ruled("sc0;p;pw9;fa1b0n9", "y:w-1");
        due("w 1", 0, Told.house(worth, 0, 6));
        due("worth", 419329, worth.cross(0));
        Told.text(worth, 1, "y:w-24");
        worth.law(1);
        due("w 29", 5, Told.house(worth, 0, 6));
        Told.text(worth, 1, "y:w=9?7");
        worth.law(2);
        due("w 9", 7, Told.house(worth, 1, 6));
    }

    /** Crossings stand at 9,998, none of which cost anything, as do the years. */
    private static CrossedFavours aheadOfTheLast(String village) {
        CrossedFavours x = free(village);
        x.grace(0);
        for (int i = 0; i < 333; i++) {
            x.years(30, i);
        }
        x.years(8, 1);
        return x;
    }

    private static void coinsAndTheLast() {
        TOLD.says("By hand: a HOUSE is CROSSED (COINS less by COST; CROSSINGS in all, 0 at first, one more, 9,999 at most: none by then)");
        CrossedFavours enough = Told.ruled("sc5;p;p", "y:5");
        due("0 at first", 0, enough.count(6));
        due("as many coins as it costs", 2, enough.cross(0));
        due("no coins left", 0, enough.count(7));
        due("one more", 1, enough.count(6));
        CrossedFavours few = Told.ruled("sc4;p;p", "y:5");
        due("one coin too few", NONE, few.cross(0));
        due("too few coins", 1, few.status(4));
        due("not paid", 4, few.count(7));
        due("for nothing without coins", 2, free("sc0;p;p").cross(0));
        CrossedFavours x = aheadOfTheLast("sc0;p;p;f");
        due("crossings", LAST - 1, x.count(6));
        Told.text(x, 2, "0101");
        due("the last by a song", 1, x.sing(0));
        due("crossings", LAST, x.count(6));
        due("none by then", NONE, x.cross(0));
        due("beyond the last", 1, x.status(5));
        due("nor by a song", 0, x.sing(0));
        due("nor by a year", NONE, x.years(1, 1));
        statuses(x, 0, 0, 0, 0, 0, 1);
        due("the latest is in the log", 0, x.log(0, 0));
        due("the log is as long as ever", 60, x.count(10));
        due("apart it does not matter", x.owes(0, 1), x.after(0, 1, 0, 1));
        due("can", 3, x.all(11));
        due("other acts go on", 39, x.give(39));
        x.undo();
        due("undone", 38, x.undo());
        due("crossings", LAST - 1, x.count(6));
        due("by hand then", true, x.cross(1) != NONE);
        due("crossings", LAST, x.count(6));
        due("beyond again", NONE, x.cross(1));
        due("beyond again", 2, x.status(5));
        Told.text(x, 1, "y:1");
        x.law(1);
        x.keep(1);
        due("kept ahead of beyond", NONE, x.cross(1));
        due("coins ahead of beyond", NONE, x.cross(0));
        statuses(x, 0, 0, 1, 0, 1, 2);
    }

    private static void logOfSixty() {
        TOLD.says("the LOG: which, FAVOURS in all (of all two what one OWES the other above 0, together), whether there is a RING then (1, 0; the latest 60)");
        CrossedFavours x = free("p;p;p;f;fa1b2n2");
        due("empty", 0, x.count(10));
        due("no latest", NONE, x.log(0, 0));
        x.cross(1);
        due("which", 1, x.log(0, 0));
        due("favours", 5, x.log(0, 1));
        due("a ring", 1, x.log(0, 2));
        x.cross(1);
        due("favours", 3, x.log(0, 1));
        due("no ring", 0, x.log(0, 2));
        due("the one ahead", 1, x.log(1, 2));
        due("no third", NONE, x.log(2, 0));
        CrossedFavours y = free("p;p;p");
        for (int i = 1; i <= 60; i++) {
            y.cross(i % 3);
        }
        due("sixty", 60, y.count(10));
        due("the first", 1, y.log(59, 0));
        due("none ahead of it", NONE, y.log(60, 0));
        y.cross(2);
        due("sixty still", 60, y.count(10));
        due("the first is gone", 2, y.log(59, 0));
        due("none ahead of it", NONE, y.log(60, 0));
        for (int i = 0; i < 60; i++) {
            due("the log's " + i, i == 0 ? 2 : (61 - i) % 3, y.log(i, 0));
        }
        TOLD.says("LOG, the latest (i 0), the one ahead of it (1) ..: 0 which, 1 FAVOURS in all, 2 whether there was a RING. NONE: no such ones.");
        due("what 3", NONE, y.log(0, 3));
        due("what -1", NONE, y.log(0, -1));
        due("what far out", NONE, y.log(0, Integer.MIN_VALUE));
        for (int far : FAR) {
            due("i " + far, NONE, y.log(far, 0));
        }
        due("no village", NONE, new CrossedFavours().log(0, 0));
    }

    private static void singing() {
        TOLD.says("A SONG is SUNG: its HOUSES are CROSSED one behind the other, each for its COST, up to one that can't be.");
        CrossedFavours x = Told.singing("sc3;p;p;p;pk1", "0121", "013", "31", "07");
        due("as far as coins go", 3, x.sing(0));
        due("coins", 0, x.count(7));
        due("none without coins", 0, x.sing(0));
        x.give(9);
        due("up to one that is kept", 2, x.sing(1));
        due("kept at once", 0, x.sing(2));
        due("up to one that is not there", 1, x.sing(3));
        due("crossings", 6, x.count(6));
        due("acts: each crossing, and the coins", 7, x.count(11));
        due("the log", 0, x.log(0, 0));
        CrossedFavours full = Told.singing("sm3;p;p;p;fn2;fa1b2n2", "210");
        due("up to one that is full: 2 turned, so it is not", 3, full.sing(0));
        CrossedFavours stuck = Told.singing("sm3;p;p;p;fn2;fa1b2n2", "10");
        due("full at once", 0, stuck.sing(0));
        statuses(stuck, 0, 0, 0, 0, 0, 0);
        CrossedFavours longest = Told.singing("p;p", "0101010101010101");
        due("sixteen", 16, longest.sing(0));
        due("up to coins", 4, longest.sing(0));
        CrossedFavours bare = Told.singing(Texts.SOON_BARE, "00");
        due("up to one that is bare", 1, bare.sing(0));
        CrossedFavours dear = Told.singing("sc5;p;p", "0011");
        Told.text(dear, 1, "y:n+1");
        dear.law(0);
        due("each for its cost then: 1, 2, 1, not 2", 3, dear.sing(0));
        due("one coin left", 1, dear.count(7));
        TOLD.says("SUNG: how many were CROSSED (STATUS counts nothing). NONE: no such SONG, no VILLAGE (STATUS 0).");
        statuses(x, 0, 0, 0, 0, 0, 0);
        due("behind the last", NONE, x.sing(4));
        for (int far : FAR) {
            due("song " + far, NONE, x.sing(far));
        }
        statuses(x, 4, 0, 0, 0, 0, 0);
        CrossedFavours none = new CrossedFavours();
        Told.text(none, 2, "0");
        due("no village", NONE, none.sing(0));
        statuses(none, 1, 0, 0, 0, 0, 0);
    }

    // ---- favours, houses, coins

    private static void givingFavours() {
        TOLD.says("FAVOURS are given (n 1 .. 9: one OWES the other so many more; not, if it were FULL)");
        CrossedFavours x = Told.village("sm9;p;p;p");
        due("the fewest", 1, x.gives(0, 1, 1));
        due("up to all there may be", 9, x.gives(0, 1, 8));
        due("one more", HIDDEN, x.gives(0, 1, 1));
        due("the most", 9, x.gives(1, 2, 9));
        due("as many the other way: quits", 0, x.gives(1, 0, 9));
        due("and on", 9, x.gives(1, 0, 9));
        due("one more the other way", HIDDEN, x.gives(1, 0, 1));
        due("less", -8, x.gives(0, 1, 1));
        due("seen from the other", 8, x.owes(1, 0));
        statuses(x, 0, 0, 0, 2, 0, 0);
        TOLD.says("HIDDEN: no such HOUSES (STATUS 0), alike, out of bounds (1), FULL (3).");
        due("none", HIDDEN, x.gives(0, 1, 0));
        due("ten", HIDDEN, x.gives(0, 1, 10));
        due("below", HIDDEN, x.gives(0, 1, -1));
        due("far below", HIDDEN, x.gives(0, 1, Integer.MIN_VALUE));
        due("far above", HIDDEN, x.gives(0, 1, Integer.MAX_VALUE));
        due("alike", HIDDEN, x.gives(2, 2, 1));
        statuses(x, 0, 6, 0, 2, 0, 0);
        due("no such first", HIDDEN, x.gives(3, 0, 1));
        due("no such second", HIDDEN, x.gives(0, 3, 1));
        for (int far : FAR) {
            due("first " + far, HIDDEN, x.gives(far, 0, 1));
            due("second " + far, HIDDEN, x.gives(0, far, 1));
        }
        statuses(x, 8, 6, 0, 2, 0, 0);
        due("acts", 6, x.count(11));
        CrossedFavours kept = Told.village("pk1;pk1");
        due("a kept one gives", 1, kept.gives(0, 1, 1));
    }

    private static void forgiving() {
        TOLD.says("forgiven (all between two are none; there must be one)");
        CrossedFavours x = Told.village("p;p;p;fn9;fa2b1");
        due("what the first owed", 9, x.forgives(0, 1));
        due("none", 0, x.owes(0, 1));
        due("the second's alone", -1, x.forgives(1, 2));
        due("none", 0, x.all(5));
        TOLD.says("Forgiven: what the first OWED. HIDDEN: no such HOUSES (STATUS 0), alike (1), there is none (2).");
        due("there is none any more", HIDDEN, x.forgives(0, 1));
        due("there never was", HIDDEN, x.forgives(0, 2));
        due("alike", HIDDEN, x.forgives(1, 1));
        due("no such first", HIDDEN, x.forgives(3, 1));
        due("no such second", HIDDEN, x.forgives(1, 3));
        for (int far : FAR) {
            due("first " + far, HIDDEN, x.forgives(far, 0));
            due("second " + far, HIDDEN, x.forgives(0, far));
        }
        statuses(x, 8, 1, 2, 0, 0, 0);
        due("acts", 2, x.count(11));
    }

    private static void keeping() {
        TOLD.says("KEPT, or not: whether it is then (1, 0). NONE: no such HOUSE (STATUS 0).");
        CrossedFavours x = Told.village("p;p;p;p;p;pk1");
        due("the first", 1, x.keep(0));
        due("the last, kept as told", 0, x.keep(5));
        due("again", 1, x.keep(5));
        due("the others are as they were", 33, x.all(10));
        due("not any more", 0, x.keep(0));
        due("behind the last", NONE, x.keep(6));
        for (int far : FAR) {
            due("house " + far, NONE, x.keep(far));
        }
        due("one whose bit would go round", NONE, x.keep(32));
        statuses(x, 5, 0, 0, 0, 0, 0);
        due("acts", 4, x.count(11));
        due("no village", NONE, new CrossedFavours().keep(0));
    }

    private static void givingCoins() {
        TOLD.says("COINS are given (1 .. 50; 999 at most)");
        CrossedFavours x = Told.village("sc99;p;p");
        due("the fewest", 100, x.give(1));
        for (int i = 1; i <= 17; i++) {
            due("the most", 100 + 50 * i, x.give(50));
        }
        due("up to 999", 998, x.give(48));
        due("above by one", NONE, x.give(2));
        due("to 999", 999, x.give(1));
        due("above", NONE, x.give(1));
        statuses(x, 0, 0, 0, 2, 0, 0);
        TOLD.says("COINS are given: COINS then. NONE: no VILLAGE (STATUS 0), out of bounds (1), above 999 (3).");
        due("none", NONE, x.give(0));
        due("51", NONE, x.give(51));
        for (int far : FAR) {
            due("coins " + far, NONE, x.give(far));
        }
        statuses(x, 0, 5, 0, 2, 0, 0);
        due("coins", 999, x.count(7));
        CrossedFavours none = new CrossedFavours();
        due("no village", NONE, none.give(1));
        statuses(none, 1, 0, 0, 0, 0, 0);
    }

    // ---- undoing, status

    private static void undoing() {
        TOLD.says("All these (each CROSSING) are ACTS: the latest 40 can be UNDONE one by one (LOG, too).");
        CrossedFavours x = Told.village("sc0;p;p");
        for (int i = 1; i <= 41; i++) {
            x.give(i);
            due("acts", Math.min(i, 40), x.count(11));
        }
        for (int left = 39; left >= 0; left--) {
            due("undone", left, x.undo());
        }
        due("the first of 41 stands", 1, x.count(7));
        due("no more", NONE, x.undo());
        CrossedFavours y = Told.singing("sc99;p;p;p;f;fa1b2", "0121012101210121");
        for (int i = 0; i < 4; i++) {
            y.sing(0);
        }
        due("crossings by songs", 64, y.count(6));
        due("the log's first is the fifth crossing", 0, y.log(59, 0));
        due("one undone", 39, y.undo());
        due("the log is sixty still", 60, y.count(10));
        due("the fourth, which had gone, is back", 1, y.log(59, 0));
        for (int i = 0; i < 4; i++) {
            y.undo();
        }
        due("the log is shorter then", 59, y.count(10));
        due("its first", 0, y.log(58, 0));
        due("none ahead of that", NONE, y.log(59, 0));
        for (int i = 0; i < 35; i++) {
            y.undo();
        }
        due("24 stand", 24, y.count(6));
        due("24 in the log", 24, y.count(10));
        due("coins are back", 75, y.count(7));
        due("no more", NONE, y.undo());
        TOLD.says("The latest ACT is UNDONE: how many still can be. NONE: none.");
        due("nothing done yet", NONE, Told.village("p;p").undo());
        due("no village", NONE, new CrossedFavours().undo());
        undoneEach();
    }

    private static void undoneEach() {
        CrossedFavours x = Told.village("pw4;pw3;pw2;fn2;fa1b2");
        x.cross(1);
        x.gives(1, 0, 3);
        x.forgives(0, 2);
        x.keep(2);
        x.give(5);
        x.gives(0, 0, 1);
        due("a refused one is no act", 4, x.undo());
        due("coins", 19, x.count(7));
        due("still kept", 1, Told.house(x, 2, 2));
        due("kept", 3, x.undo());
        due("not any more", 0, Told.house(x, 2, 2));
        due("forgiven", 2, x.undo());
        due("owes again", 2, x.owes(0, 2));
        due("given", 1, x.undo());
        due("as it was", 2, x.owes(1, 0));
        due("crossed", 0, x.undo());
        due("owes", 2, x.owes(0, 1));
        due("owes", 0, x.owes(0, 2));
        due("worth", 3, Told.house(x, 1, 0));
        due("how often", 0, Told.house(x, 1, 3));
        due("crossings", 0, x.count(6));
        due("coins", 20, x.count(7));
        due("log", 0, x.count(10));
    }

    private static void statusOfSeveral() {
        TOLD.says("beyond the last CROSSING (5); of several the first; not UNDONE");
        CrossedFavours x = Told.village("sc0m9;p;p;fn9");
        due("no such ahead of alike and bounds", HIDDEN, x.gives(2, 2, 0));
        statuses(x, 1, 0, 0, 0, 0, 0);
        due("bounds ahead of full", HIDDEN, x.gives(0, 1, 10));
        due("alike ahead of none", HIDDEN, x.forgives(1, 1));
        due("no such ahead of alike", HIDDEN, x.forgives(2, 2));
        statuses(x, 2, 2, 0, 0, 0, 0);
        x.keep(0);
        due("kept ahead of coins", NONE, x.cross(0));
        statuses(x, 2, 2, 1, 0, 0, 0);
        due("coins", NONE, x.cross(1));
        statuses(x, 2, 2, 1, 0, 1, 0);
        x.undo();
        statuses(x, 2, 2, 1, 0, 1, 0);
        CrossedFavours bare = Told.ruled(Texts.SOON_BARE.replace("sc99", "sc9"), "y:9");
        bare.cross(0);
        due("bare ahead of coins", NONE, bare.cross(0));
        statuses(bare, 0, 0, 0, 1, 0, 0);
        bare.keep(0);
        due("kept ahead of bare", NONE, bare.cross(0));
        statuses(bare, 0, 0, 1, 1, 0, 0);
        CrossedFavours full = Told.village("sc0m3;p;pk1;p;fn2;fa1b2n2");
        due("kept ahead of full", NONE, full.cross(1));
        full.keep(1);
        due("full ahead of coins", NONE, full.cross(1));
        statuses(full, 0, 0, 1, 1, 0, 0);
        CrossedFavours rich = Told.village("sc99;p;p");
        for (int i = 0; i < 18; i++) {
            rich.give(50);
        }
        due("bounds ahead of above", NONE, rich.give(51));
        statuses(rich, 0, 1, 0, 0, 0, 0);
        CrossedFavours none = new CrossedFavours();
        due("no village ahead of bounds", NONE, none.give(0));
        due("no village ahead of alike", HIDDEN, none.gives(0, 0, 0));
        due("no village ahead of alike", HIDDEN, none.forgives(0, 0));
        statuses(none, 3, 0, 0, 0, 0, 0);
        TOLD.says("STATUS. NONE: no such what.");
        due("what 6", NONE, none.status(6));
        for (int far : FAR) {
            due("what " + far, NONE, none.status(far));
        }
        due("what 5", 0, none.status(5));
    }

    // ---- 6, 8, 10

    private static void standing() {
        TOLD.says("0 WORTH, 1 TEMPER, 2 whether KEPT (1, 0), 3 how often CROSSED, 4 IN, 5 OUT, 6 COST, as now. NoSuchElementException: no such ones.");
        CrossedFavours x = Told.village("p;pw3t7k1;f");
        int[] want = {3, 7, 1, 0, 1, 0, 1};
        for (int what = 0; what < want.length; what++) {
            due("house 1, " + what, want[what], Told.house(x, 1, what));
        }
        due("what 7", Told.THROWN, Told.house(x, 1, 7));
        due("house 2", Told.THROWN, Told.house(x, 2, 0));
        for (int far : FAR) {
            due("what " + far, Told.THROWN, Told.house(x, 0, far));
            due("house " + far, Told.THROWN, Told.house(x, far, 0));
            due("both " + far, Told.THROWN, Told.house(x, far, far));
        }
        due("no village", Told.THROWN, Told.house(new CrossedFavours(), 0, 0));
        TOLD.says("The LAW that holds (NONE: none). False: no such one.");
        due("none of none", true, x.law(NONE));
        due("no law yet", false, x.law(0));
        Told.text(x, 1, "y:4");
        due("the first", true, x.law(0));
        due("behind the last", false, x.law(1));
        due("below none", false, x.law(-2));
        due("far out", false, x.law(Integer.MAX_VALUE));
        due("far out", false, x.law(Integer.MIN_VALUE));
        due("the first still", 0, x.count(5));
        due("none", true, x.law(NONE));
        due("none", NONE, x.count(5));
        due("without a village too", true, new CrossedFavours().law(NONE));
        TOLD.says("GRACE (0 .. 9). False: out of bounds, it is so.");
        due("2 at first", false, x.grace(2));
        for (int v = 9; v >= 0; v--) {
            due("grace " + v, true, x.grace(v));
            due("it is so", false, x.grace(v));
            due("it is", v, x.count(8));
        }
        due("above", false, x.grace(10));
        for (int far : FAR) {
            due("grace " + far, false, x.grace(far));
        }
        due("as it was", 0, x.count(8));
    }
}
