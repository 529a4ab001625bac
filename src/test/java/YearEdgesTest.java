import java.math.BigInteger;

/** Of years, images and counts (part 4 of the terms, promises 17 and 38 to 40), each sentence that names a boundary, in the document's words. */
public final class YearEdgesTest {
    private static final Told TOLD = new Told("edges of years");
    private static final int NONE = CrossedFavours.NONE;
    private static final int HIDDEN = CrossedFavours.HIDDEN;
    private static final int[] FAR = {-1, Integer.MIN_VALUE, Integer.MAX_VALUE};
    private static final long[] SEEDS = {0, 1, -1, 2026, -2026, 1L << 33, 1L << 63, Long.MAX_VALUE, 0x123456789abcdefL};

    private YearEdgesTest() {
    }

    public static void main(String[] args) {
        howMany();
        whoIsCrossed();
        grace();
        forgiving();
        acts();
        theLast();
        draws();
        images();
        imagedLog();
        counts();
        TOLD.close();
    }

    private static void due(String call, long want, long got) {
        TOLD.due(call, want, got);
    }

    /** Draws one behind the other, as the document has them, by numbers without bounds. */
    private static final class Draws {
        private static final BigInteger ROUND = BigInteger.ONE.shiftLeft(64);
        private BigInteger x;

        Draws(long seed) {
            x = BigInteger.valueOf(seed).mod(ROUND);
        }

        int of(int j) {
            x = x.multiply(new BigInteger("6364136223846793005")).add(new BigInteger("1442695040888963407")).mod(ROUND);
            return x.shiftRight(33).mod(BigInteger.valueOf(j)).intValue();
        }
    }

    private static void noStatus(CrossedFavours x) {
        for (int what = 0; what < 6; what++) {
            due("no status " + what, 0, x.status(what));
        }
    }

    private static CrossedFavours without(int grace, String village) {
        CrossedFavours x = Told.village(village);
        x.grace(grace);
        return x;
    }

    // ---- years

    private static void howMany() {
        TOLD.says("YEARS by a seed: n (1 .. 30) times");
        CrossedFavours x = without(0, "p;p");
        due("one", 1, x.years(1, 5));
        due("thirty", 31, x.years(30, 5));
        TOLD.says("YEARS: CROSSINGS in all. NONE: no VILLAGE, out of bounds, beyond 9,999.");
        due("none", NONE, x.years(0, 5));
        due("thirty-one", NONE, x.years(31, 5));
        for (int far : FAR) {
            due("years " + far, NONE, x.years(far, 5));
        }
        due("crossings", 31, x.count(6));
        due("acts", 31, x.count(11));
        noStatus(x);
        CrossedFavours none = new CrossedFavours();
        due("no village", NONE, none.years(1, 5));
        noStatus(none);
    }

    private static void whoIsCrossed() {
        TOLD.says("a draw of how many HOUSES there are: it is CROSSED, if it can be (for nothing; in the LOG), else nothing");
        CrossedFavours dear = Told.ruled("sc0;p;p;p", "y:9");
        dear.grace(0);
        due("for nothing", 30, dear.years(30, 7));
        due("no coins", 0, dear.count(7));
        due("in the log", 30, dear.count(10));
        due("how often, in all", 30, Told.house(dear, 0, 3) + Told.house(dear, 1, 3) + Told.house(dear, 2, 3));
        due("all kept", 0, without(0, "pk1;pk1;f").years(30, 7));
        CrossedFavours half = without(0, "p;pk1;f");
        int zeros = 0;
        Draws draws = new Draws(7);
        for (int i = 0; i < 30; i++) {
            zeros += draws.of(2) == 0 ? 1 : 0;
            draws.of(10);
        }
        due("one kept", zeros, half.years(30, 7));
        due("in the log", zeros, half.count(10));
        due("the other alone", 0, half.log(0, 0));
        due("one full, the others kept", 0, without(0, "sm3;pk1;p;pk1;fn2;fa1b2n2").years(30, 7));
        CrossedFavours bare = without(0, Texts.SOON_BARE);
        bare.cross(0);
        for (int house = 1; house < 4; house++) {
            bare.keep(house);
        }
        due("one bare, the others kept", 1, bare.years(30, 7));
        noStatus(bare);
    }

    /** A seed by which the first draw of 10 is v, and two unlike houses of two are drawn behind it. */
    private static long seedOf(int v, boolean alike) {
        for (long seed = 0; seed < 100000; seed++) {
            Draws draws = new Draws(seed);
            draws.of(2);
            if (draws.of(10) == v && draws.of(2) == draws.of(2) == alike) {
                return seed;
            }
        }
        throw new IllegalStateException("no seed");
    }

    private static void grace() {
        TOLD.says("then a draw of 10 below GRACE (0 .. 9; 2 at first)");
        for (int v = 0; v <= 9; v++) {
            for (int grace = 0; grace <= 9; grace++) {
                CrossedFavours x = without(grace, "pk1;pk1;fn5");
                x.years(1, seedOf(v, false));
                due("draw " + v + ", grace " + grace, v < grace ? 0 : 5, x.owes(0, 1));
            }
            CrossedFavours first = Told.village("pk1;pk1;fn5");
            first.years(1, seedOf(v, false));
            due("draw " + v + ", grace as at first", v < 2 ? 0 : 5, first.owes(0, 1));
        }
    }

    private static void forgiving() {
        TOLD.says("a draw of how many HOUSES, another one: all between both is forgiven, if there is any");
        CrossedFavours alike = without(9, "pk1;pk1;fn5");
        alike.years(1, seedOf(0, true));
        due("the same one twice", 5, alike.owes(0, 1));
        due("of itself", 0, alike.owes(0, 0));
        due("one act all the same", 1, alike.count(11));
        CrossedFavours nothing = without(9, "pk1;pk1");
        due("nothing between them", 0, nothing.years(1, seedOf(0, false)));
        due("one act all the same", 1, nothing.count(11));
        CrossedFavours other = without(9, "pk1;pk1;fa1b0n5");
        other.years(1, seedOf(0, false));
        due("the other way", 0, other.owes(1, 0));
        for (long seed : SEEDS) {
            forgivenAlong(seed);
        }
    }

    /** Years beside crossings and forgivings by hand. */
    private static void forgivenAlong(long seed) {
        String village = "sc99m99;p;pw2;p;pk1;pw4;fn3;fa1b2n2;fa2b3;fa3b4;fa4b0;fa0b3n9";
        CrossedFavours x = without(6, village);
        CrossedFavours y = Told.village(village);
        Draws draws = new Draws(seed);
        for (int i = 0; i < 20; i++) {
            y.cross(draws.of(5));
            if (draws.of(10) < 6) {
                int one = draws.of(5);
                y.forgives(one, draws.of(5));
            }
        }
        due("crossings by seed " + seed, y.count(6), x.years(20, seed));
        for (int i = 0; i < 25; i++) {
            due("owes by seed " + seed, y.owes(i / 5, i % 5), x.owes(i / 5, i % 5));
        }
        for (int house = 0; house < 5; house++) {
            due("worth by seed " + seed, Told.house(y, house, 0), Told.house(x, house, 0));
        }
        for (int i = 0; i < 60; i++) {
            due("log by seed " + seed, y.log(i / 3, i % 3), x.log(i / 3, i % 3));
        }
        noStatus(x);
    }

    private static void acts() {
        TOLD.says("Each of these is one ACT.");
        CrossedFavours kept = without(0, "pk1;pk1;f");
        kept.years(3, 7);
        due("even if nothing comes of it", 3, kept.count(11));
        String village = "sm99;p;p;p;fn5;fa1b2n4;fa2b0n3";
        CrossedFavours x = without(9, village);
        int[] favours = new int[30];
        favours[0] = x.all(5);
        for (int n = 1; n < 30; n++) {
            CrossedFavours y = without(9, village);
            y.years(n, 11);
            favours[n] = y.all(5);
        }
        x.years(30, 11);
        for (int n = 29; n >= 0; n--) {
            due("undone", n, x.undo());
            due("favours behind " + n, favours[n], x.all(5));
        }
        due("no crossings are left", 0, x.count(6));
        x.years(30, 11);
        x.years(11, 11);
        due("the latest 40", 40, x.count(11));
    }

    private static void theLast() {
        TOLD.says("None of them beyond 9,999 CROSSINGS, counted as if each were one.");
        CrossedFavours x = without(0, "p;p;f");
        for (int i = 0; i < 333; i++) {
            x.years(30, i);
        }
        due("crossings", 9990, x.count(6));
        due("ten", NONE, x.years(10, 3));
        due("thirty", NONE, x.years(30, 3));
        x.keep(0);
        x.keep(1);
        due("ten, though none can be crossed", NONE, x.years(10, 3));
        due("nine, none of which can be", 9990, x.years(9, 3));
        x.keep(0);
        x.keep(1);
        due("nine", 9999, x.years(9, 3));
        due("one more", NONE, x.years(1, 3));
        due("crossings", 9999, x.count(6));
        TOLD.says("No STATUS.");
        noStatus(x);
    }

    private static void draws() {
        TOLD.says("x, at first the seed, becomes x times 6364136223846793005 and 1442695040888963407 (64 bits, going round); "
            + "a draw of j: (x shifted right by 33, without sign) modulo j.");
        for (int houses = 2; houses <= 6; houses++) {
            for (long seed : SEEDS) {
                CrossedFavours x = without(houses % 2 == 0 ? 9 : 2, "p" + ";p".repeat(houses - 1));
                x.years(30, seed);
                Draws draws = new Draws(seed);
                for (int i = 29; i >= 0; i--) {
                    due("year " + (30 - i) + " of " + houses + " houses by seed " + seed, draws.of(houses), x.log(i, 0));
                    if (draws.of(10) < x.count(8)) {
                        draws.of(houses);
                        draws.of(houses);
                    }
                }
            }
        }
        CrossedFavours anew = without(0, "p;p;p;p;p;p");
        anew.years(5, 99);
        anew.years(5, 99);
        for (int i = 0; i < 5; i++) {
            due("each call is by its own seed", anew.log(i, 0), anew.log(i + 5, 0));
        }
    }

    // ---- images

    private static void images() {
        TOLD.says("An IMAGE keeps what all OWE, WORTHS, how often each was CROSSED, KEPT, COINS, CROSSINGS, the LOG; "
            + "BACK: they are so again (no ACT can be UNDONE then).");
        CrossedFavours x = Told.village("sc9;pw2;pw3;pw5;f;fa1b2n2");
        x.cross(1);
        x.keep(2);
        due("crossings", 1, x.image());
        due("acts stay", 2, x.count(11));
        String then = Look.at(x);
        x.cross(0);
        x.cross(1);
        x.gives(2, 0, 3);
        x.keep(2);
        x.keep(0);
        x.give(50);
        due("crossings then", 1, x.back());
        due("no act can be undone", 0, x.count(11));
        due("no act can be undone", NONE, x.undo());
        TOLD.due("all else is so again", then.replace("count 11: 2", "count 11: 0"), Look.at(x));
        TOLD.says("An IMAGE (instead of the one ahead): CROSSINGS. NONE: no VILLAGE.");
        CrossedFavours y = Told.village("p;p;f");
        due("none yet", 0, y.image());
        y.cross(0);
        due("instead", 1, y.image());
        y.cross(0);
        y.cross(0);
        due("the newer one", 1, y.back());
        due("the newer one", -1, y.owes(0, 1));
        y.cross(0);
        due("as often as one likes", 1, y.back());
        due("as often as one likes", -1, y.owes(0, 1));
        due("no village", NONE, new CrossedFavours().image());
        TOLD.says("BACK: CROSSINGS. NONE: no IMAGE of this VILLAGE.");
        due("no village", NONE, new CrossedFavours().back());
        due("no image", NONE, Told.village("p;p").back());
        due("another village", 2, Told.text(y, 0, "p;p;f"));
        due("no image of this one", NONE, y.back());
        due("an image of this one", 0, y.image());
        due("behind an undone act", 0, y.back());
        y.give(5);
        y.image();
        y.undo();
        due("coins undone", 20, y.count(7));
        y.back();
        due("coins of the image", 25, y.count(7));
        y.seen(0, 1, 1, 0, true);
        y.grace(7);
        y.cross(5);
        y.back();
        due("what was seen stays", 1, y.count(9));
        due("grace stays", 7, y.count(8));
        due("status stays", 1, y.status(0));
    }

    /** A log that had been written over whole when the image is brought back. */
    private static void imagedLog() {
        TOLD.says("the LOG; BACK: they are so again");
        CrossedFavours x = without(0, "p;p;p;p;f;fa1b2;fa2b3");
        for (int i = 0; i < 3; i++) {
            x.years(30, i);
        }
        int[] then = new int[180];
        for (int i = 0; i < 180; i++) {
            then[i] = x.log(i / 3, i % 3);
        }
        due("crossings", 90, x.image());
        for (int i = 0; i < 5; i++) {
            x.years(30, i + 3);
        }
        due("crossings", 240, x.count(6));
        x.back();
        for (int i = 0; i < 180; i++) {
            due("the log's " + i / 3 + "," + i % 3, then[i], x.log(i / 3, i % 3));
        }
        due("no more of it", NONE, x.log(60, 0));
    }

    private static void counts() {
        TOLD.says("1 how MANY there may be between two (0: no VILLAGE)");
        due("no village", 0, new CrossedFavours().count(1));
        due("the fewest", 1, Told.village("sm1;p;p").count(1));
        due("the most", 99, Told.village("sm99;p;p").count(1));
        TOLD.says("5 the LAW that holds (NONE), 6 CROSSINGS, 7 COINS, 8 GRACE, 9 SEEN, 10 how long the LOG is, 11 ACTS that can be UNDONE. HIDDEN for others.");
        CrossedFavours x = Told.ruled("p;p;p;p;p;p", "y:1");
        Told.tape(x, "abc");
        int[] want = {6, 20, 1, 0, 3, 0, 0, 20, 2, 0, 0, 0};
        for (int what = 0; what < want.length; what++) {
            due("count " + what, want[what], x.count(what));
        }
        due("12", HIDDEN, x.count(12));
        for (int far : FAR) {
            due("count " + far, HIDDEN, x.count(far));
            due("count " + far + " of a new one", HIDDEN, new CrossedFavours().count(far));
        }
        TOLD.says("`NONE = -1`: None; refused.");
        due("NONE", -1, CrossedFavours.NONE);
        TOLD.says("`HIDDEN = -1000000`: Not told.");
        due("HIDDEN", -1000000, CrossedFavours.HIDDEN);
    }
}
