/** Of what is found out apart (part 3 of the terms, promises 21 to 37), each sentence that names a boundary, in the document's words. */
public final class ApartEdgesTest {
    private static final Told TOLD = new Told("edges of what is apart");
    private static final int NONE = CrossedFavours.NONE;
    private static final int HIDDEN = CrossedFavours.HIDDEN;
    private static final int WHOLE = 1000000000;
    private static final int[] FAR = {-1, Integer.MIN_VALUE, Integer.MAX_VALUE};
    private static final String ROW = "p;p;p;f;fa1b2";
    private static final String RING_OF_SIX = "p;p;p;p;p;p;f;fa1b2;fa2b3;fa3b4;fa4b5;fa5b0";
    /** Crossing 0 makes the third side 6, then 1 makes it 15, 2 makes it 87, and then 0 would be beyond 99. */
    private static final String GROWING = "sm99;p;p;p;fn3;fa1b2n3;fa2b0n3";
    /** Sides 5, 4, 2: by 2, 0, 2, 0 they come to be 3, 2, 1, 0, one behind the other. */
    private static final String SHRINKING = "p;p;p;fn5;fa1b2n4;fa2b0n2";

    private ApartEdgesTest() {
    }

    public static void main(String[] args) {
        apart();
        after();
        again();
        like();
        reach();
        straight();
        fewest();
        ringAndChain();
        seen();
        fits();
        ask();
        game();
        rests();
        odds();
        slips();
        shares();
        most();
        bits();
        levels();
        TOLD.close();
    }

    private static void due(String call, long want, long got) {
        TOLD.due(call, want, got);
    }

    // ---- songs

    private static void apart() {
        TOLD.says("(Apart, from as it is now; COINS, how many CROSSINGS there may be do not matter; KEPT, BARE, FULL do.");
        CrossedFavours poor = Told.singing("sc0;" + ROW, "1");
        due("without coins", 1, poor.after(0, 1, 0, 2));
        due("without coins", 14, poor.reach(4));
        due("all is as it was", 0, poor.owes(0, 2));
        due("nothing is crossed", 0, poor.count(6));
        due("nothing to undo", 0, poor.count(11));
        due("nothing in the log", 0, poor.count(10));
        poor.gives(0, 1, 4);
        due("from as it is now", 5, poor.after(0, 1, 0, 2));
        poor.keep(1);
        due("kept", HIDDEN, poor.after(0, 1, 0, 2));
        CrossedFavours bare = Told.singing(Texts.SOON_BARE, "0", "00");
        due("not bare yet", 0, bare.worthAfter(0, 1, 0));
        due("bare by then", HIDDEN, bare.worthAfter(1, 1, 0));
        due("bare by then", HIDDEN, bare.after(0, 2, 0, 1));
        CrossedFavours full = Told.singing("sm5;p;p;p;fn2;fa1b2n3", "1", "01");
        due("full", HIDDEN, full.after(0, 1, 0, 1));
        due("not full behind another", 2, full.after(1, 1, 0, 1));
        TOLD.says("A SONG can be, if all its HOUSES can be CROSSED one behind the other.)");
        CrossedFavours x = Told.singing(ROW, "0123", "3", "012");
        due("its last is not there", HIDDEN, x.after(0, 1, 0, 1));
        due("its only one is not there", NONE, x.like(1));
        due("all are there", 1, x.after(2, 1, 0, 1));
    }

    private static void after() {
        TOLD.says("AFTER a SONG n (0 .. 60) times: OWES of two; WORTH of one.");
        CrossedFavours x = Told.singing("pw4;pw3;f", "0", "9");
        for (int n = 0; n <= 60; n++) {
            due("behind " + n, n % 2 == 0 ? 1 : -1, x.after(0, n, 0, 1));
            due("worth behind " + n, n % 2 == 0 ? 4 : 1, x.worthAfter(0, n, 0));
        }
        due("61", HIDDEN, x.after(0, 61, 0, 1));
        due("61", HIDDEN, x.worthAfter(0, 61, 0));
        for (int far : FAR) {
            due("n " + far, HIDDEN, x.after(0, far, 0, 1));
            due("n " + far, HIDDEN, x.worthAfter(0, far, 0));
        }
        due("what can't be, not at all", 1, x.after(1, 0, 0, 1));
        due("what can't be, not at all", 3, x.worthAfter(1, 0, 1));
        TOLD.says("AFTER: OWES. HIDDEN: it can't be, no such ones, out of bounds.");
        due("it can't be", HIDDEN, x.after(1, 1, 0, 1));
        due("of itself", 0, x.after(0, 1, 1, 1));
        due("no such song", HIDDEN, x.after(2, 0, 0, 1));
        due("no such first", HIDDEN, x.after(0, 0, 2, 1));
        due("no such second", HIDDEN, x.after(0, 0, 1, 2));
        for (int far : FAR) {
            due("song " + far, HIDDEN, x.after(far, 1, 0, 1));
            due("first " + far, HIDDEN, x.after(0, 1, far, 1));
            due("second " + far, HIDDEN, x.after(0, 1, 0, far));
        }
        CrossedFavours growing = Told.singing(GROWING, "012");
        due("once", -87, growing.after(0, 1, 0, 1));
        due("not twice", HIDDEN, growing.after(0, 2, 0, 1));
        TOLD.says("AFTER: WORTH. HIDDEN likewise.");
        due("it can't be", HIDDEN, x.worthAfter(1, 1, 0));
        due("no such song", HIDDEN, x.worthAfter(2, 1, 0));
        due("no such house", HIDDEN, x.worthAfter(0, 1, 2));
        for (int far : FAR) {
            due("song " + far, HIDDEN, x.worthAfter(far, 1, 0));
            due("house " + far, HIDDEN, x.worthAfter(0, 1, far));
        }
        due("not twice", HIDDEN, growing.worthAfter(0, 2, 0));
        CrossedFavours none = new CrossedFavours();
        Told.text(none, 2, "0");
        due("no village", HIDDEN, none.after(0, 0, 0, 0));
        due("no village", HIDDEN, none.worthAfter(0, 0, 0));
    }

    private static void again() {
        TOLD.says("AGAIN of a SONG: the fewest times (1 .. 60) behind which all OWE as now; all OWE as now and all WORTHS are as now.");
        CrossedFavours two = Told.singing("p;p;f", "00", "01", "0", "0101010101");
        due("once", 1, two.again(0, 0));
        due("once", 1, two.again(0, 1));
        due("once, but for worths", 1, two.again(1, 0));
        due("five times", 5, two.again(1, 1));
        due("twice", 2, two.again(2, 0));
        due("once", 1, two.again(3, 1));
        CrossedFavours sixty = Told.singing("p;p;p;p;p;fa4b2;fa2b3;fa1b3;fa0b4", "232041");
        due("60 times", 60, sixty.again(0, 0));
        CrossedFavours worths = Told.singing("p;p;p;p;p;p;fa3b2;fa0b3;fa4b3", "423240");
        due("60 times, with worths", 60, worths.again(0, 1));
        TOLD.says("AGAIN: all OWE as now (0), and WORTHS (1). NONE: not within 60, it can't be so often, no such ones.");
        CrossedFavours more = Told.singing("p;p;p;p;p;fa3b1;fa4b2;fa1b0;fa1b2", "2342130");
        due("it would be 61 times", NONE, more.again(0, 0));
        due("it would be 61 times or more", NONE, more.again(0, 1));
        CrossedFavours wild = Told.singing("p;p;fn3", "01");
        due("worths not within 60", NONE, wild.again(0, 1));
        due("it can't be twice", NONE, Told.singing(GROWING, "012").again(0, 0));
        due("it can't be at all", NONE, Told.singing("p;pk1", "01").again(0, 0));
        due("what 2", NONE, two.again(0, 2));
        due("no such song", NONE, two.again(4, 0));
        for (int far : FAR) {
            due("what " + far, NONE, two.again(0, far));
            due("song " + far, NONE, two.again(far, 0));
        }
        CrossedFavours none = new CrossedFavours();
        Told.text(none, 2, "0");
        due("no village", NONE, none.again(0, 0));
    }

    private static void like() {
        TOLD.says("LIKE of a SONG: whether there is an order of all HOUSES so that behind it once they OWE in that order as they do now in theirs (1, 0).");
        CrossedFavours two = Told.singing("p;pw9;f", "0", "00");
        due("the names changed, worths do not matter", 1, two.like(0));
        due("as now", 1, two.like(1));
        String six = "p;p;p;p;p;p;f;fa2b1;fa2b3;fa4b3;fa4b5";
        due("six the other way round", 1, Told.singing(six, "024").like(0));
        due("but for how many", 0, Told.singing(six + "n2", "024").like(0));
        due("no favours", 1, Told.singing("p;p;p", "012").like(0));
        CrossedFavours three = Told.singing("p;p;p;fb2;fa1b2", "1", "2", "01");
        due("two owe one, then a row: none may stand for two", 0, three.like(0));
        due("two owe one, then one owes two", 0, three.like(1));
        TOLD.says("LIKE (1, 0). NONE: it can't be, no such SONG, no VILLAGE.");
        due("no such song", NONE, three.like(3));
        for (int far : FAR) {
            due("song " + far, NONE, three.like(far));
        }
        three.keep(1);
        due("it can't be", NONE, three.like(2));
        CrossedFavours none = new CrossedFavours();
        Told.text(none, 2, "0");
        due("no village", NONE, none.like(0));
    }

    // ---- searches

    private static final String[] CLOSE_TABLES = {
        "sm52;p;p;p;p;fa1b3n9;fa0b1n3;fa2b1;fa3b1n5", "sm89;p;p;p;p;p;fa4b2;fa1b3n9;fa3b0n9;fa3b4;fa1b2n9;fa2b3",
        "sm24;p;p;p;p;p;p;fa2b5n4;fa3b5n3;fa3b4;fa1b2n6;fa4b5n4;fa2b0n2;fa5b1n6;fa1b5n8;fa5b3n4;fa5b4",
        "sm83;p;p;p;p;fa0b1;fa3b0", "sm99;p;p;p;p;p;p;fa0b3;fa4b0",
        "sm63;p;p;p;p;p;p;fa1b2;fa1b0;fa1b2;fa2b4n3;fa2b3;fa1b0;fa0b1;fa0b5"
    };

    private static void reaches(String village, int... want) {
        CrossedFavours x = Told.village(village);
        for (int n = 0; n < want.length; n++) {
            due("reach " + n + " of " + village, want[n], x.reach(n));
        }
    }

    private static void reach() {
        TOLD.says("REACH for n (0 .. 4): by how many unlike tables of what all OWE one can be led by n crossings or fewer (as now, too).");
        reaches("p;p", 1, 1, 1, 1, 1);
        reaches("p;p;f", 1, 2, 2, 2, 2);
        reaches("pk1;pk1;f", 1, 1, 1, 1, 1);
        reaches("p;p;p;p;p;p;f;fa2b3;fa4b5", 1, 4, 7, 8, 8);
        reaches("p;p;p;p;p;p;fa2b3;fa4b5", 1, 3, 4, 4, 4);
        // six rows, three that two owe, three that owe two, two rings
        reaches("sm1;p;p;p;f;fa1b2", 1, 4, 7, 12, 14);
        // the one in the middle is full, unless both owe it or it owes both
        reaches("sm5;p;p;p;fn2;fa1b2n3", 1, 3, 4, 4, 4);
        // behind 0 and 3 nothing stops 0 from being crossed once more but that it has come to be bare
        reaches("sc99m40;pw1;pw2k1;pw5k1;pw3;fa1b0n6;fa2b0n6;fa0b3", 1, 3, 5, 6, 7);
        // many: told so by the Oracle, too, which goes through all rows
        String many = "sm99;p;p;p;p;p;p;fa2b4;fa2b5;fa1b4;fa0b5;fa0b2;fa1b2;fa1b3;fa3b4;fa1b5;fa3b5;fa0b3;fa2b3";
        reaches(many, 1, 7, 34, 155, 713);
        Oracle oracle = new Oracle();
        oracle.tape = many;
        due("a village to the Oracle", 6, oracle.text(0));
        due("reach 4 by the Oracle", 713, oracle.reach(4));
        // tables that have one half in common, or only what a single house owes, are unlike
        for (String close : CLOSE_TABLES) {
            Oracle plain = new Oracle();
            plain.tape = close;
            plain.text(0);
            reaches(close, plain.reach(0), plain.reach(1), plain.reach(2), plain.reach(3), plain.reach(4));
        }
        TOLD.says("REACH. NONE: no VILLAGE, out of bounds.");
        CrossedFavours x = Told.village(ROW);
        due("five", NONE, x.reach(5));
        for (int far : FAR) {
            due("n " + far, NONE, x.reach(far));
        }
        due("no village", NONE, new CrossedFavours().reach(0));
    }

    private static void straightens(String village, int want, int row) {
        CrossedFavours x = Told.village(village);
        due("straight 0 of " + village, want, x.straight(0));
        due("straight 1 of " + village, row, x.straight(1));
    }

    private static void straight() {
        TOLD.says("STRAIGHT: the fewest crossings (0 .. 4) by which there is no RING: how many; their row of digits (of several the least; none: 0).");
        straightens("p;p", 0, 0);
        straightens(ROW, 0, 0);
        straightens(ROW + ";fa2b0", 1, 0);
        straightens(ROW.replaceFirst("p", "pk1") + ";fa2b0", 1, 1);
        straightens("p;p;p;p;p;p;f;fa1b2;fa2b0;fa3b4;fa4b5;fa5b3", 2, 3);
        straightens("p;p;p;p;f;fa1b2;fa2b3;fa3b0", 2, 1);
        straightens("p;p;p;p;p;f;fa1b2;fa2b3;fa3b4;fa4b0", 3, 12);
        straightens(SHRINKING, 4, 2020);
        // 0 is apart, and rows that begin with it are no shorter
        straightens("p;p;p;p;fa1b2;fa2b3;fa3b1", 1, 1);
        straightens("p;p;p;p;p;fa1b2;fa2b3;fa3b4;fa4b1", 2, 12);
        straightens("p;p;p;p;p;p;fa1b2;fa2b3;fa3b4;fa4b5;fa5b1", 3, 123);
        TOLD.says("STRAIGHT: how many (0), the row (1). NONE: not by four, no VILLAGE, no such what.");
        // one crossing more than four: by 0 first
        straightens("p;p;p;fn5;fa1b2n6;fa2b0n2", NONE, NONE);
        straightens("pk1;pk1;pk1;f;fa1b2;fa2b0", NONE, NONE);
        CrossedFavours x = Told.village(ROW);
        due("what 2", NONE, x.straight(2));
        for (int far : FAR) {
            due("what " + far, NONE, x.straight(far));
        }
        due("no village", NONE, new CrossedFavours().straight(0));
        due("no village", NONE, new CrossedFavours().straight(1));
    }

    private static void fewest() {
        TOLD.says("FEWEST for n (0 .. 4): the least FAVOURS in all by n crossings or fewer; the row (of several with the fewest crossings the least; none: 0).");
        CrossedFavours x = Told.village(SHRINKING);
        int[] least = {11, 9, 7, 5, 3};
        int[] rows = {0, 2, 20, 202, 2020};
        for (int n = 0; n <= 4; n++) {
            due("fewest " + n, least[n], x.fewest(n, 0));
            due("its row " + n, rows[n], x.fewest(n, 1));
        }
        CrossedFavours ring = Told.village(ROW + ";fa2b0");
        due("one of three alike", 2, ring.fewest(4, 0));
        due("the least", 0, ring.fewest(4, 1));
        CrossedFavours rings = Told.village("pk1;p;p;p;p;p;f;fa1b2;fa2b0;fa3b4;fa4b5;fa5b3");
        due("two", 4, rings.fewest(4, 0));
        due("the least of two digits", 13, rings.fewest(4, 1));
        CrossedFavours none = Told.village("p;p");
        due("no favours", 0, none.fewest(4, 0));
        due("none", 0, none.fewest(4, 1));
        CrossedFavours row = Told.village("sm99;p;p;p;fn9;fa1b2n9");
        due("as now is best", 18, row.fewest(4, 0));
        due("none", 0, row.fewest(4, 1));
        TOLD.says("FEWEST: FAVOURS (0), the row (1). NONE: no VILLAGE, out of bounds, no such what.");
        due("five", NONE, x.fewest(5, 0));
        due("what 2", NONE, x.fewest(4, 2));
        for (int far : FAR) {
            due("n " + far, NONE, x.fewest(far, 0));
            due("what " + far, NONE, x.fewest(0, far));
        }
        due("no village", NONE, new CrossedFavours().fewest(0, 0));
        due("no village", NONE, new CrossedFavours().fewest(4, 1));
    }

    private static void ringAndChain() {
        TOLD.says("RING: the fewest HOUSES (3 or more) each of which OWES the next one above 0, the last one the first.");
        due("of three", 3, Told.village(ROW + ";fa2b0").ring());
        due("of four", 4, Told.village("p;p;p;p;f;fa1b2;fa2b3;fa3b0").ring());
        CrossedFavours six = Told.village(RING_OF_SIX);
        due("of six", 6, six.ring());
        due("quits again is no ring of two", NONE, Told.village("p;p;f;fa1b0").ring());
        TOLD.says("RING. NONE: there is none, no VILLAGE.");
        due("a row", NONE, Told.village(ROW).ring());
        due("both ways round to one", NONE, Told.village(ROW + ";fb2").ring());
        due("no favours", NONE, Told.village("p;p").ring());
        due("no village", NONE, new CrossedFavours().ring());
        TOLD.says("CHAIN from one to another: the fewest steps, each from one to whom it OWES above 0 (to itself: 0).");
        for (int i = 0; i < 36; i++) {
            due("from " + i / 6 + " to " + i % 6, (i % 6 + 6 - i / 6) % 6, six.chain(i / 6, i % 6));
        }
        six.gives(0, 4, 1);
        due("shorter", 1, six.chain(0, 4));
        due("shorter", 2, six.chain(0, 5));
        due("of three by now", 3, six.ring());
        due("two ways of two steps", 2, Told.village("p;p;p;p;f;fb2;fa1b3;fa2b3").chain(0, 3));
        due("itself, with no favours", 0, Told.village("p;p").chain(1, 1));
        TOLD.says("CHAIN. NONE: by none, no such HOUSES.");
        CrossedFavours row = Told.village(ROW);
        due("against the row", NONE, row.chain(2, 0));
        due("no such end", NONE, row.chain(0, 3));
        due("no such beginning", NONE, row.chain(3, 0));
        due("no such, alike", NONE, row.chain(3, 3));
        for (int far : FAR) {
            due("from " + far, NONE, row.chain(far, 0));
            due("to " + far, NONE, row.chain(0, far));
            due("both " + far, NONE, row.chain(far, far));
        }
        due("no village", NONE, new CrossedFavours().chain(0, 0));
    }

    // ---- what was seen

    private static void seen() {
        TOLD.says("SEEN (10 at most): as told, behind n (1 .. 9) times one and the same SONG one OWED another v (-99 .. 99), or did not");
        CrossedFavours x = Told.village("p;p;p;p;p;p");
        due("the lowest", 1, x.seen(0, 5, 1, -99, true));
        due("the highest", 2, x.seen(5, 0, 9, 99, false));
        for (int i = 3; i <= 10; i++) {
            due("the " + i + "th", i, x.seen(0, 1, 1, 0, true));
        }
        due("an eleventh", NONE, x.seen(0, 1, 1, 0, true));
        due("ten", 10, x.count(9));
        TOLD.says("SEEN: how many there are. NONE: no such HOUSES, alike, out of bounds, there are ten.");
        CrossedFavours y = Told.village("p;p");
        due("alike", NONE, y.seen(1, 1, 1, 0, true));
        due("no such first", NONE, y.seen(2, 0, 1, 0, true));
        due("no such second", NONE, y.seen(0, 2, 1, 0, true));
        due("none times", NONE, y.seen(0, 1, 0, 0, true));
        due("ten times", NONE, y.seen(0, 1, 10, 0, true));
        due("below", NONE, y.seen(0, 1, 1, -100, true));
        due("above", NONE, y.seen(0, 1, 1, 100, true));
        for (int far : FAR) {
            due("first " + far, NONE, y.seen(far, 0, 1, 0, true));
            due("second " + far, NONE, y.seen(0, far, 1, 0, true));
            due("times " + far, NONE, y.seen(0, 1, far, 0, true));
            due("value " + far, far == -1 ? 1 : NONE, y.seen(0, 1, 1, far, true));
        }
        due("one", 1, y.count(9));
        for (int what = 0; what < 6; what++) {
            due("no status " + what, 0, y.status(what));
        }
        due("no village", NONE, new CrossedFavours().seen(0, 1, 1, 0, true));
    }

    private static int fit(String village, int n, int v, boolean is, String... songs) {
        CrossedFavours x = Told.singing(village, songs);
        x.seen(0, 1, n, v, is);
        return x.fits();
    }

    private static void fits() {
        TOLD.says("(nor does it by a SONG that can't be so often)");
        String two = "p;p;f";
        due("once it does not by one that can't be", 2, fit(two, 1, -1, true, "9", "0"));
        due("once it did not by one that can't be", 1, fit(two, 1, -1, false, "9", "0"));
        due("once it can be", 1, fit(GROWING, 1, -87, true, "012"));
        due("twice it can't, so not", 0, fit(GROWING, 2, -87, true, "012"));
        due("twice it can't, so it did not", 1, fit(GROWING, 2, -87, false, "012"));
        due("nine times it can't, so it did not", 1, fit(GROWING, 9, 0, false, "012"));
        TOLD.says("FITS: SONGS (bits) by which all SEEN is so.");
        due("behind nine", 1, fit(two, 9, -1, true, "0", "00"));
        due("behind nine", 2, fit(two, 9, 1, true, "0", "00"));
        due("not behind nine", 2, fit(two, 9, -1, false, "0", "00"));
        due("the fourth", 8, fit(two, 1, -1, true, "00", "11", "01", "1"));
        due("nothing seen", 15, Told.singing(two, "00", "11", "01", "9").fits());
        due("no songs", 0, Told.village(two).fits());
        CrossedFavours x = Told.singing(ROW, "0", "1", "2");
        x.seen(0, 1, 1, -1, true);
        due("two of three", 3, x.fits());
        x.seen(2, 0, 1, -1, true);
        due("all that was seen", 2, x.fits());
        x.seen(0, 1, 1, 1, true);
        due("against one another", 0, x.fits());
        TOLD.says("FITS, as bits. NONE: no VILLAGE.");
        CrossedFavours none = new CrossedFavours();
        due("no village", NONE, none.fits());
        Told.text(none, 2, "0");
        due("no village, but a song", NONE, none.fits());
    }

    private static void ask() {
        TOLD.says("the n (1 .. 9) by which the most of these SONGS that agree in what one OWES the other behind n times "
            + "(can't be: all alike) are fewest (of several the least)");
        due("one song", 1, Told.singing("p;p;f", "0").ask(0, 1));
        due("four alike", 1, Told.singing("p;p;f", "0", "0", "0", "0").ask(0, 1));
        due("apart behind once", 1, Told.singing("p;p;f", "0", "00").ask(0, 1));
        due("apart behind twice", 2, Told.singing(ROW, "01", "02").ask(0, 2));
        due("apart behind nine times at last", 9, Told.singing("p;p;p;p;fa1b0;fa1b2;fa3b2", "102323", "22").ask(0, 1));
        due("one that can't be is apart", 1, Told.singing("p;p;f", "00", "9").ask(0, 1));
        due("two that can't be are alike, as are the others behind once", 1, Told.singing(ROW, "01", "02", "9", "8").ask(0, 2));
        due("alike behind once, then one can't be", 2, Told.singing(GROWING, "012", "0").ask(1, 2));
        CrossedFavours x = Told.singing(ROW, "01", "02", "0", "9");
        x.seen(0, 1, 1, 99, false);
        due("all fit", 15, x.fits());
        x.seen(0, 1, 1, 1, true);
        due("the first does", 1, x.fits());
        due("the one is asked at once", 1, x.ask(0, 2));
        TOLD.says("ASK. NONE: nothing fits, no such HOUSES, alike.");
        x.seen(0, 1, 1, 0, true);
        due("nothing fits", NONE, x.ask(0, 2));
        due("no songs", NONE, Told.village(ROW).ask(0, 1));
        CrossedFavours y = Told.singing(ROW, "0");
        due("alike", NONE, y.ask(1, 1));
        due("no such first", NONE, y.ask(3, 0));
        due("no such second", NONE, y.ask(0, 3));
        for (int far : FAR) {
            due("first " + far, NONE, y.ask(far, 0));
            due("second " + far, NONE, y.ask(0, far));
        }
        due("no village", NONE, new CrossedFavours().ask(0, 1));
    }

    // ---- games, odds, shares

    private static void game() {
        TOLD.says("GAME of two: x, y (0 nothing, 1 it is CROSSED), first the first, then the second (one that can't be: nothing): "
            + "what one has: IN less OUT then, 1 less, if it chose 1.");
        // 1 is full as long as 0 owes it
        CrossedFavours x = Told.village("sm3;p;p;p;fn2;fa1b2n2");
        due("neither", -2, x.game(0, 1, 0, 0, 0));
        due("neither", 0, x.game(0, 1, 0, 0, 1));
        due("the first", 1, x.game(0, 1, 1, 0, 0));
        due("the first", -4, x.game(0, 1, 1, 0, 1));
        due("the second can't be", -2, x.game(0, 1, 0, 1, 0));
        due("the second can't be, and chose it", -1, x.game(0, 1, 0, 1, 1));
        due("the first, then the second can be", -3, x.game(0, 1, 1, 1, 0));
        due("the first, then the second can be", 3, x.game(0, 1, 1, 1, 1));
        due("the other way the first can't be", -5, x.game(1, 0, 1, 1, 0));
        due("then the second", 1, x.game(1, 0, 1, 1, 1));
        due("all is as it was", 2, x.owes(0, 1));
        TOLD.says("GAME: what the first has (0), the second (1). HIDDEN: no such HOUSES, alike, out of bounds.");
        due("alike", HIDDEN, x.game(1, 1, 0, 0, 0));
        due("no such first", HIDDEN, x.game(3, 0, 0, 0, 0));
        due("no such second", HIDDEN, x.game(0, 3, 0, 0, 0));
        due("x 2", HIDDEN, x.game(0, 1, 2, 0, 0));
        due("y 2", HIDDEN, x.game(0, 1, 0, 2, 0));
        due("what 2", HIDDEN, x.game(0, 1, 0, 0, 2));
        for (int far : FAR) {
            due("first " + far, HIDDEN, x.game(far, 0, 0, 0, 0));
            due("second " + far, HIDDEN, x.game(0, far, 0, 0, 0));
            due("x " + far, HIDDEN, x.game(0, 1, far, 0, 0));
            due("y " + far, HIDDEN, x.game(0, 1, 0, far, 0));
            due("what " + far, HIDDEN, x.game(0, 1, 0, 0, far));
        }
        due("no village", HIDDEN, new CrossedFavours().game(0, 1, 0, 0, 0));
    }

    private static void rests(String village, int one, int other, int... want) {
        CrossedFavours x = Told.village(village);
        due("rests of " + village, want.length, x.rests(one, other, NONE));
        for (int i = 0; i < want.length; i++) {
            due("rest " + i + " of " + village, want[i], x.rests(one, other, i));
        }
        due("no further one of " + village, NONE, x.rests(one, other, want.length));
    }

    private static void rests() {
        TOLD.says("RESTS: 10 times x and y by which neither has more by another of its own: how many, the i-th (rising).");
        rests("p;p;f", 0, 1);
        rests("p;p", 0, 1, 0);
        rests("p;p;p;fa2b0", 1, 2, 1);
        rests("p;p;p;fa2b0", 2, 1, 10);
        rests("p;p;p;f;fa2b1", 0, 2, 11);
        // the first has -2 by either as long as the second is crossed
        rests("p;p;p;fb2;fa2b1n3", 0, 2, 1, 11);
        rests("p;p;p;p;fa2b1;fn2;fa1b3n3;fb2", 2, 1, 0, 11);
        TOLD.says("RESTS: how many (i NONE), the i-th. NONE: no such one, no such HOUSES, alike.");
        CrossedFavours x = Told.village("p;p;p");
        due("alike", NONE, x.rests(1, 1, NONE));
        due("no such first", NONE, x.rests(3, 0, NONE));
        due("no such second", NONE, x.rests(0, 3, NONE));
        due("below how many", NONE, x.rests(0, 1, -2));
        due("behind the last", NONE, x.rests(0, 1, 1));
        due("far below", NONE, x.rests(0, 1, Integer.MIN_VALUE));
        due("far above", NONE, x.rests(0, 1, Integer.MAX_VALUE));
        for (int far : FAR) {
            due("first " + far, NONE, x.rests(far, 0, 0));
            due("second " + far, NONE, x.rests(0, far, 0));
        }
        due("no village", NONE, new CrossedFavours().rests(0, 1, NONE));
    }

    /** 1 owes 0, who owes 2: crossing 0 makes a ring, or ends it. */
    private static final String HINGE = "p;p;p;fa1b0;fb2";

    private static void odds() {
        TOLD.says("ODDS of a SONG of 8 digits at most for a chance (0 .. 100)");
        CrossedFavours x = Told.singing(HINGE, "0", "00000000", "000000000", " 0 0 0 0 0 0 0 0 ");
        due("chance 0", 0, x.odds(0, 0));
        due("chance 1", 10000000, x.odds(0, 1));
        due("chance 99", 990000000, x.odds(0, 99));
        due("chance 100", WHOLE, x.odds(0, 100));
        due("eight digits", WHOLE, x.odds(1, 0));
        due("eight digits with blanks", WHOLE, x.odds(3, 0));
        TOLD.says("ODDS. NONE: no such SONG, no VILLAGE, more than 8 digits, out of bounds.");
        due("nine digits", NONE, x.odds(2, 0));
        due("chance 101", NONE, x.odds(0, 101));
        due("no such song", NONE, x.odds(4, 0));
        for (int far : FAR) {
            due("chance " + far, NONE, x.odds(0, far));
            due("song " + far, NONE, x.odds(far, 0));
        }
        CrossedFavours none = new CrossedFavours();
        Told.text(none, 2, "0");
        due("no village", NONE, none.odds(0, 0));
    }

    private static void slips() {
        TOLD.says("at each digit by chance the next HOUSE (behind the last one 0; of a digit that is no HOUSE: nothing) is CROSSED instead "
            + "(one that can't be: nothing), each by itself");
        CrossedFavours x = Told.singing(HINGE, "2", "3", "9", "1");
        due("behind the last one 0", 0, x.odds(0, 100));
        due("behind the last one 0 by chance", 700000000, x.odds(0, 30));
        due("3 is no house", WHOLE, x.odds(1, 100));
        due("9 is no house", WHOLE, x.odds(2, 100));
        due("9 is no house", WHOLE, x.odds(2, 0));
        due("the next one", WHOLE, x.odds(3, 100));
        CrossedFavours kept = Told.singing(HINGE.replaceFirst("p", "pk1"), "2", "0");
        due("the next one is kept", WHOLE, kept.odds(0, 100));
        due("the first is kept, the next one not", WHOLE, kept.odds(1, 50));
        TOLD.says("of 10 to the 9 parts those by which there is no RING then (of each part chance 100ths, cut, the next one)");
        // 1 is kept, so of each 0 the next one is nothing
        CrossedFavours y = Told.singing(HINGE.replaceFirst("p;p", "p;pk1"), "00", "00000", "00000000");
        due("67 and 33 of both", 557800000, y.odds(0, 33));
        for (int chance = 0; chance <= 100; chance++) {
            due("five digits, chance " + chance, quiet(5, WHOLE, chance, true), y.odds(1, chance));
            due("eight digits, chance " + chance, quiet(8, WHOLE, chance, true), y.odds(2, chance));
        }
    }

    /** Of parts that stand ahead of so many digits, those behind which 0 was crossed evenly often. */
    private static long quiet(int digits, long parts, int chance, boolean even) {
        if (digits == 0) {
            return even ? parts : 0;
        }
        long next = parts * chance / 100;
        return quiet(digits - 1, parts - next, chance, !even) + quiet(digits - 1, next, chance, even);
    }

    private static void shares() {
        TOLD.says("SHARES of c (0 .. 999) by IN: for a HOUSE c times its by that of all, cut (none: 0).");
        CrossedFavours x = Told.village("p;p;p;f;fa1b2n2");
        due("none in", 0, x.shares(0, 999));
        due("a third", 333, x.shares(1, 999));
        due("two thirds", 666, x.shares(2, 999));
        due("cut", 332, x.shares(1, 998));
        due("cut", 665, x.shares(2, 998));
        due("of nothing", 0, x.shares(2, 0));
        due("of one", 0, x.shares(2, 1));
        due("all of one favour", 999, Told.village("p;p;f").shares(1, 999));
        due("no favours", 0, Told.village("p;p").shares(0, 999));
        due("the most of all", 999, Told.village("sm99;p;p" + ";fn9".repeat(11)).shares(1, 999));
        TOLD.says("SHARES. NONE: no such HOUSE, out of bounds.");
        due("above", NONE, x.shares(0, 1000));
        due("no such house", NONE, x.shares(3, 1));
        for (int far : FAR) {
            due("c " + far, NONE, x.shares(0, far));
            due("house " + far, NONE, x.shares(far, 1));
        }
        due("no village", NONE, new CrossedFavours().shares(0, 0));
    }

    // ---- all

    private static void alls(CrossedFavours x, int first, int... want) {
        for (int i = 0; i < want.length; i++) {
            due("all " + (first + i), want[i], x.all(first + i));
        }
    }

    private static void most() {
        TOLD.says("CROSSEST: that was CROSSED most; HOT: with most TEMPER (of several the lowest, all).");
        alls(Told.village("p;p;p"), 0, 0, 0, 0, 0, 0);
        alls(Told.village("pt1;pw2t3;pw2t3;fn2;fb2n2"), 0, 1, 0, 1, 0, 1);
        alls(Told.village("p;p;p;p;p;pw2t9;fa4b5;fa4b0"), 0, 0, 4, 5, 0, 5);
        CrossedFavours x = Told.village("p;p;p");
        x.cross(2);
        due("the last was crossed most", 2, x.all(3));
        x.cross(1);
        due("of several the lowest", 1, x.all(3));
        x.cross(2);
        due("the last again", 2, x.all(3));
        TOLD.says("LEVELS (12; NONE: a RING), MOST (13). HIDDEN: no VILLAGE, no such what.");
        due("what 14", HIDDEN, x.all(14));
        for (int far : FAR) {
            due("what " + far, HIDDEN, x.all(far));
        }
        due("no village", HIDDEN, new CrossedFavours().all(0));
        due("no village", HIDDEN, new CrossedFavours().all(13));
    }

    private static void bits() {
        TOLD.says("FAVOURS in all. PAIRS: how many two have favours between them.");
        alls(Told.village("p;p"), 5, 0, 0);
        alls(Told.village("p;p;f;fa1b0"), 5, 0, 0);
        alls(Told.village("p;p;p;fn9;fa2b1n4;fa2b0"), 5, 14, 3);
        TOLD.says("FIRST: HOUSES (bits) with OUT and no IN; LAST: with IN and no OUT; APART: with neither. KEPT: bits.");
        alls(Told.village("p;p"), 7, 0, 0, 3, 0);
        alls(Told.village("pk1;p;p;p;p;pk1;fb5;fa3b4;fa4b1"), 7, 9, 34, 4, 33);
        alls(Told.village(RING_OF_SIX), 7, 0, 0, 0, 0);
        TOLD.says("CAN: HOUSES (bits) that can be CROSSED now.");
        due("all", 63, Told.village("sc0;p;p;p;p;p;p").all(11));
        due("none", 0, Told.village("pk1;pk1").all(11));
        due("but for a kept one", 62, Told.village(RING_OF_SIX.replaceFirst("p", "pk1")).all(11));
        due("but for a full one", 5, Told.village("sm5;p;p;p;fn2;fa1b2n3").all(11));
        CrossedFavours bare = Told.village(Texts.SOON_BARE);
        bare.cross(0);
        due("but for a bare one", 14, bare.all(11));
    }

    private static void levels() {
        TOLD.says("LEVELS: the most HOUSES each of which OWES the next one above 0 (a RING: NONE). MOST: the most favours between two.");
        alls(Told.village("p;p"), 12, 1, 0);
        alls(Told.village("p;p;f"), 12, 2, 1);
        alls(Told.village("p;p;p;p;p;p;fa5b4n3;fa4b3;fa3b2n9;fa2b1;fa1b0"), 12, 6, 9);
        alls(Told.village("p;p;p;p;fa3b2;fa3b1;fa3b0n2"), 12, 2, 2);
        alls(Told.village(ROW + ";fa2b0"), 12, NONE, 1);
        alls(Told.village("p;p;p;p;p;p;fa3b4;fa4b5;fa5b3;fn4"), 12, NONE, 4);
        alls(Told.village("sm99;p;p" + ";fa1b0n9".repeat(11)), 12, 2, 99);
    }
}
