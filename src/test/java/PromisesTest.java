/** Each promise by its number: ordinary calls, the edges that the document names, wrong calls. */
public final class PromisesTest {
    private static final Told TOLD = new Told("promises");
    private static final int NONE = CrossedFavours.NONE;
    private static final int HIDDEN = CrossedFavours.HIDDEN;
    private static final long THROWN = Told.THROWN;
    private static final String LINE = "pw2;pw3t7;pw5;f;fa1b2n2";
    private static final String RING = "p;p;p;f;fa1b2;fa2b0";

    private PromisesTest() {
    }

    public static void main(String[] args) {
        texts();
        laws();
        standing();
        acts();
        yearsAndUndoing();
        songsApart();
        ways();
        sights();
        chances();
        imagesAndCounts();
        TOLD.close();
    }

    private static void due(String call, long want, long got) {
        TOLD.due(call, want, got);
    }

    private static void due(String call, boolean want, boolean got) {
        TOLD.due(call, want, got);
    }

    // ---- 1 to 5

    private static void texts() {
        newObject();
        feedAndEnd();
        villageFaults();
        villageDefaults();
        songFaults();
        settling();
    }

    private static void newObject() {
        CrossedFavours x = new CrossedFavours();
        int[] counts = {0, 0, 0, 0, 0, NONE, 0, 0, 2, 0, 0, 0};
        for (int what = 0; what < counts.length; what++) {
            due("1 count " + what, counts[what], x.count(what));
        }
        due("1 all", HIDDEN, x.all(5));
        due("1 ring", NONE, x.ring());
        due("1 back", NONE, x.back());
        for (int what = 0; what < 6; what++) {
            due("1 status " + what, 0, x.status(what));
        }
    }

    private static void feedAndEnd() {
        CrossedFavours x = new CrossedFavours();
        due("2 feed of one byte each", 5, x.feed(1, 256, 65536, 16777216, 0x7f));
        due("2 feed of nothing", 5, x.feed(0, 0, 0, 0, 0));
        due("2 feed of high bytes", 25, x.feed(-1, -1, -1, -1, -1));
        for (int i = 45; i <= 225; i += 20) {
            due("2 feed to " + i, i, x.feed(-1, -1, -1, -1, -1));
        }
        due("2 feed of 16 to 241", NONE, x.feed(-1, -1, -1, -1, 0));
        due("2 nothing came", 225, x.count(4));
        due("2 feed of 15 to 240", 240, x.feed(-1, -1, -1, 0x00ffffff, 0));
        due("2 feed of nothing to 240", 240, x.feed(0, 0, 0, 0, 0));
        due("2 feed of 1 to 241", NONE, x.feed(0, 0, 0, 0, 1));
        due("3 end 241", false, x.end(241));
        due("3 end -1", false, x.end(-1));
        due("3 end 240", true, x.end(240));
        due("3 end 3", true, x.end(3));
        due("3 end 4", false, x.end(4));
        due("3 count", 3, x.count(4));
        CrossedFavours y = new CrossedFavours();
        y.feed(0x70003b00, 0x00700000, 0, 0, 0x78);
        due("2 bytes of 0 are left out", 3, y.fault(0));
        due("3 end cuts", true, y.end(3));
        due("3 what is left", NONE, y.fault(0));
    }

    private static void villageFaults() {
        String[] texts = {
            "", "0", " ", "1", "p", "1", "p;p", "-1", "p;p;", "4", "p;p ; ", "6", ";p;p", "0", "p;;p", "2",
            " p ; p ", "-1", "p;p;s;s", "6", "s;s", "2", "p;p;p;p;p;p", "-1", "p;p;p;p;p;p;p", "12", "p;p;P", "4",
            "sc99m99;p;p", "-1", "sc00m01;p;p", "-1", "sm0;p;p", "2", "sm00;p;p", "3", "sm000;p;p", "4", "sc100;p;p", "4",
            "sc1c2;p;p", "3", "sw1;p;p", "1", "sc;p;p", "2", "s c 1 2;p;p", "6", "sc1 m2;p;p", "-1", "sc", "2", "sc1", "3",
            "pw1t0k0;pw9t9k1", "-1", "pw0;p", "2", "pw09;p", "-1", "pw10;p", "3", "pw100;p", "4", "pw00;p", "3", "pw0 9;p", "2",
            "pt10;p", "3", "pk2;p", "2", "pk01;p", "-1", "pk02;p", "3", "pn1;p", "1", "pw1w1;p", "3", "p1;p", "1", "pw-1;p", "2",
            "p;p;f", "-1", "p;p;fa0b1n9", "-1", "p;p;fn10", "7", "p;p;fn0", "6", "p;p;fa6", "6", "p;p;fa05b0", "10",
            "p;p;fa1b0", "-1", "p;p;fa0b0", "9", "p;p;fb2", "7", "f;p;p", "-1", "fb2;p;p;p", "-1", "p;p;f;x", "6",
            "p;p;sm2;fn2", "-1", "p;p;sm2;fn2;f", "13", "p;p;sm2;fn2;f;fa1b0", "-1", "p;p;sm1;fa1b0n9;fn9", "-1",
            "p;p;fn9;fn9;fn2", "-1", "p;p;fn9;fn9;fn3", "15",
            "p;p;f;f;f;f;f;f;f;f;f;f;f;f", "-1", "p;p;f;f;f;f;f;f;f;f;f;f;f;f;f", "28", "p,p", "1", "p;p\u00e9", "3", "p;p;fa1\u0001b0", "7"
        };
        for (int i = 0; i < texts.length; i += 2) {
            due("4 fault of village " + texts[i], Integer.parseInt(texts[i + 1]), Told.fault(0, texts[i]));
        }
        CrossedFavours x = new CrossedFavours();
        due("4 no such sort", -2, x.fault(3));
        due("4 no such sort", -2, x.fault(-1));
    }

    private static void villageDefaults() {
        CrossedFavours x = Told.village("p;p;pw9t0k1;f");
        due("4 coins without", 20, x.count(7));
        due("4 many without", 20, x.count(1));
        due("4 worth without", 1, houseOf(x, 0, 0));
        due("4 temper without", 2, houseOf(x, 0, 1));
        due("4 kept without", 0, houseOf(x, 0, 2));
        due("4 worth told", 9, houseOf(x, 2, 0));
        due("4 temper told", 0, houseOf(x, 2, 1));
        due("4 kept told", 1, houseOf(x, 2, 2));
        due("4 favours without", 1, x.owes(0, 1));
        CrossedFavours y = Told.village("p;p;s c 07 m 99;fn9;fa1b0n4");
        due("4 coins told", 7, y.count(7));
        due("4 many told", 99, y.count(1));
        due("4 all favours between two together", 5, y.owes(0, 1));
    }

    private static long houseOf(CrossedFavours x, int house, int what) {
        return Told.house(x, house, what);
    }

    private static void songFaults() {
        String[] texts = {
            "", "0", "  ", "2", "0", "-1", "9", "-1", " 0 1 2 ", "-1", "0123456789012345", "-1", "01234567890123456", "16",
            "0 1 2 3 4 5 6 7 8 9 0 1 2 3 4 5 6", "32", "0;1", "1", "x", "0", "12x", "2", "1 2 \u00e9", "4"
        };
        for (int i = 0; i < texts.length; i += 2) {
            due("4 fault of song " + texts[i], Integer.parseInt(texts[i + 1]), Told.fault(2, texts[i]));
        }
    }

    private static void settling() {
        CrossedFavours x = new CrossedFavours();
        due("5 a fault", NONE, Told.text(x, 0, "p"));
        due("5 the tape stays", 1, x.count(4));
        due("5 no such sort", NONE, x.text(3));
        due("5 no such sort", NONE, x.text(-1));
        due("5 village", 3, Told.text(x, 0, RING));
        due("5 the tape is empty", 0, x.count(4));
        due("5 empty is a fault", NONE, x.text(0));
        for (int i = 0; i < 4; i++) {
            due("5 law " + i, i, Told.text(x, 1, "y:" + i));
            due("5 song " + i, i, Told.text(x, 2, "" + i));
        }
        due("5 a fifth law", NONE, Told.text(x, 1, "y:4"));
        due("5 its tape stays", 3, x.count(4));
        due("5 a fifth song", NONE, Told.text(x, 2, "4"));
        x.law(2);
        x.grace(7);
        x.cross(0);
        x.seen(0, 1, 1, 1, true);
        x.image();
        x.cross(9);
        due("5 a village instead", 2, Told.text(x, 0, "sc3m4;p;p"));
        int[] counts = {2, 4, 4, 4, 0, 2, 0, 3, 7, 0, 0, 0};
        for (int what = 0; what < counts.length; what++) {
            due("5 count " + what + " behind another village", counts[what], x.count(what));
        }
        due("5 status stays", 1, x.status(0));
        due("5 no image of this village", NONE, x.back());
        due("5 no log of this village", NONE, x.log(0, 0));
        due("5 nothing to undo", NONE, x.undo());
        due("5 favours are gone", 0, x.owes(0, 1));
    }

    // ---- laws

    private static void laws() {
        lawFaults();
        lawWorths();
    }

    private static void lawFaults() {
        String[] texts = {
            "", "0", " ", "1", "y", "1", "y:", "2", "y:1", "-1", " y : 1 ", "-1", "y:1;", "4", "y:1;y:2", "-1", "y:1;;", "4",
            "y1", "1", "x:1", "0", "y:-1", "2", "y:x", "2", "y:1x", "3", "y:1234", "-1", "y:12345", "6", "y:1 2", "4",
            "y:i+o-t*n/w+d", "-1", "y:i+", "4", "y:+i", "2", "y:i++o", "4", "y:[1]", "-1", "y:[1", "4", "y:[]", "3", "y:1]", "3",
            "y:1>0?1", "-1", "y:1>0", "5", "y:1>0?", "6", "y:1?1", "3", "y:?1", "2", "y:1>0>0?1", "5", "y:1>?1", "4",
            "y:1=1&i<2|o>3?1", "-1", "y:1&1=1?1", "3", "y:1=1&1?1", "7", "y:1=1&", "6", "y:1=1|?1", "6", "y:1=1&&1=1?1", "6",
            "y:!i=1?1", "-1", "y:!1", "4", "y:!", "3", "y:(i=1)?1", "-1", "y:(i=1?1", "6", "y:(i)=1?1", "4", "y:(1)", "4",
            "y:[i=1]?1", "4", "y:i=(1)?1", "4", "y:i=!1?1", "4", "y:(i=1)+1", "7", "y:(i=1)&!o=1?1", "-1", "y:i=1)?1", "5",
            "y:!!!!!!i=1?1", "-1", "y:!!!!!!!i=1?1", "8", "y:[[[[[[1]]]]]]", "-1", "y:[[[[[[[1", "8",
            "y:((((((i=1))))))?1", "-1", "y:(((((((i", "8", "y:![(", "4", "y:!([!", "5", "y:!(!(![1]=1))?1", "-1",
            "y:!(!(!([1]=1)))?1", "8", "y:!!!!!!i=[1]?1", "10", "y:!!!!!i=[1]?1", "-1", "y:!!!!!!i=1&!i=1?[1]", "-1",
            "y:i=[[[[[[1]]]]]]?1", "-1", "y:i=[[[[[[[1", "10", "y:i=1?[[[[[[1]]]]]]", "-1", "y:i=1?[[[[[[[1", "12",
            "y:i=1&!!!!!!i=1?1", "-1", "y:i=1&!!!!!!!i", "12", "y:i=1|((((((i=1))))))?1", "-1", "y:i=1|(((((((i", "12",
            "y:!i=1|!!!!!!i=1&[[[[[[1]]]]]]=1?1", "-1", "y:[[[[[[i]]]]]]=1?1;y:[[[[[[i]]]]]]", "-1",
            "y:(!i=1)&(((((i=[1])))))?1", "-1", "y:i=1?1;y:!o=2?3;y:4", "-1", "y:1;y", "5", "y:1;x:1", "4", "y:0000", "-1"
        };
        for (int i = 0; i < texts.length; i += 2) {
            due("4 fault of law " + texts[i], Integer.parseInt(texts[i + 1]), Told.fault(1, texts[i]));
        }
    }

    /** COST of house 1, of WORTH 3, TEMPER 7, IN 1, OUT 2. */
    private static int cost(String law) {
        CrossedFavours x = Told.village(LINE);
        Told.text(x, 1, law);
        x.law(0);
        return (int) Told.house(x, 1, 6);
    }

    private static void lawWorths() {
        String[] texts = {
            "y:0", "0", "y:9", "9", "y:10", "9", "y:9999", "9", "y:0-1", "0", "y:i", "1", "y:o", "2", "y:t", "7", "y:n", "0",
            "y:w", "3", "y:d", "0", "y:w-o-i", "0", "y:t-o*w", "1", "y:t/o", "3", "y:t/o*o", "6", "y:[0-t]/o+5", "2", "y:t/n", "0",
            "y:[t-o]*[w-i]", "9", "y:8/[0-3]+9", "7", "y:t-[o+w]", "2", "y:t - [ o + w ]", "2",
            "y:i>1?4;y:5", "5", "y:i=1?4;y:5", "4", "y:i<1?4", "0", "y:i=1?4;y:i=1?5", "4", "y:!i=1?4;y:!!i=1?6", "6",
            "y:i=1|o=9&t=9?4;y:5", "4", "y:(i=1|o=9)&t=9?4;y:5", "5", "y:!(i=1&o=9)?4;y:5", "4", "y:i=2|i=3|i=1?4;y:5", "4",
            "y:i=1&o=2&t=6?4;y:5", "5", "y:!i=1&o=2?4;y:5", "5", "y:!i=2&o=2?4;y:5", "4", "y:5;y:i=1?4", "5",
            // 9999 * 9999 is held at 1,000,000, and so are the steps on the way
            "y:9999*9999/9999-95", "5", "y:[9999*9999-9999*100*2]/9999+3", "3", "y:[0-9999*9999]/9999+105", "5",
            "y:9999*9999+9999-9999*100=100?4;y:5", "4", "y:9999*9999=9999*9998?4;y:5", "4", "y:0-9999*9999<0-9999*100?4;y:5", "4"
        };
        for (int i = 0; i < texts.length; i += 2) {
            due("6 cost by " + texts[i], Integer.parseInt(texts[i + 1]), cost(texts[i]));
        }
        CrossedFavours x = Told.village("sc0;pw9;p");
        Told.text(x, 1, "y:n-99");
        Told.text(x, 1, "y:d-99");
        Told.text(x, 1, "y:w");
        x.law(0);
        for (int i = 0; i < 101; i++) {
            x.cross(0);
            if (i >= 98) {
                due("6 n behind " + (i + 1), 0, Told.house(x, 0, 6));
            }
        }
        due("6 crossed 101 times", 101, Told.house(x, 0, 3));
        x.law(2);
        long worth = Told.house(x, 0, 0);
        due("6 w is modulo 100", Math.min(9, worth % 100), Told.house(x, 0, 6));
    }

    // ---- 6 to 10

    private static void standing() {
        CrossedFavours x = Told.village(LINE);
        int[] house1 = {3, 7, 0, 0, 1, 2, 1};
        for (int what = 0; what < house1.length; what++) {
            due("6 house 1, " + what, house1[what], Told.house(x, 1, what));
        }
        due("6 what 7", THROWN, Told.house(x, 1, 7));
        due("6 what -1", THROWN, Told.house(x, 1, -1));
        due("6 house 3", THROWN, Told.house(x, 3, 0));
        due("6 house -1", THROWN, Told.house(x, -1, 0));
        due("6 no village", THROWN, Told.house(new CrossedFavours(), 0, 0));
        due("7 owes", 2, x.owes(1, 2));
        due("7 is owed", -2, x.owes(2, 1));
        due("7 nothing", 0, x.owes(0, 2));
        due("7 itself", 0, x.owes(1, 1));
        due("7 no such house", HIDDEN, x.owes(0, 3));
        due("7 no such house", HIDDEN, x.owes(-1, 0));
        due("8 none", true, x.law(NONE));
        due("8 no such one", false, x.law(0));
        Told.text(x, 1, "y:4");
        due("8 none holds at first", NONE, x.count(5));
        due("8 it holds", true, x.law(0));
        due("8 it holds still", true, x.law(0));
        due("8 by it", 4, Told.house(x, 0, 6));
        due("8 no such one", false, x.law(1));
        due("8 no such one", false, x.law(-2));
        due("8 it held on", 0, x.count(5));
        due("8 none again", true, x.law(NONE));
        due("8 by none", 1, Told.house(x, 0, 6));
        Told.text(x, 2, "0 9 1");
        due("9 how many", 3, x.sung(0, NONE));
        due("9 first", 0, x.sung(0, 0));
        due("9 one that is no house", 9, x.sung(0, 1));
        due("9 last", 1, x.sung(0, 2));
        due("9 beyond", NONE, x.sung(0, 3));
        due("9 below", NONE, x.sung(0, -2));
        due("9 no such song", NONE, x.sung(1, 0));
        due("9 no such song", NONE, x.sung(-1, NONE));
        due("10 so already", false, x.grace(2));
        due("10 highest", true, x.grace(9));
        due("10 lowest", true, x.grace(0));
        due("10 above", false, x.grace(10));
        due("10 below", false, x.grace(-1));
        due("10 it is", 0, x.count(8));
    }

    // ---- 11 to 16, 18

    private static void acts() {
        crossing();
        crossingRefused();
        singing();
        givingAndForgiving();
        keepingAndCoins();
    }

    private static void crossing() {
        CrossedFavours x = Told.village(LINE);
        // AHEAD 2, BEHIND 5 * 5: 27 / 3
        due("11 worth", 9, x.cross(1));
        due("11 who owed it owes whom it owed", 2, x.owes(0, 2));
        due("11 turned", 1, x.owes(1, 0));
        due("11 turned", 2, x.owes(2, 1));
        due("11 cost", 19, x.count(7));
        due("11 crossings", 1, x.count(6));
        due("11 how often", 1, Told.house(x, 1, 3));
        due("20 which", 1, x.log(0, 0));
        due("20 favours in all", 5, x.log(0, 1));
        due("20 a ring", 1, x.log(0, 2));
        // 0 is owed 1 by 1 (worth 9) and owes 2 (worth 5) twice: 9 + 25 = 34, by 2
        due("11 worth", 17, x.cross(0));
        due("11 to and fro is quits", 0, x.owes(1, 2));
        due("20 the latest", 0, x.log(0, 0));
        due("20 the one ahead", 1, x.log(1, 0));
        due("20 favours then", 3, x.log(0, 1));
        due("20 no ring then", 0, x.log(0, 2));
        due("20 no such one", NONE, x.log(2, 0));
        due("20 no such one", NONE, x.log(-1, 0));
        due("20 no such what", NONE, x.log(0, 3));
        due("20 no such what", NONE, x.log(0, -1));
        CrossedFavours y = Told.village("pw3;p;pw9");
        // nobody ahead, nobody behind: 1 and 1 make 2, and 3 * 333335 = 1000003 + 2
        due("11 worth of one apart", 333335, y.cross(0));
        due("11 and back", 3, y.cross(0));
    }

    private static void crossingRefused() {
        CrossedFavours x = Told.village(Texts.SOON_BARE);
        due("11 to worth 0", 0, x.cross(0));
        due("11 bare", NONE, x.cross(0));
        due("18 bare", 1, x.status(3));
        due("37 bare can't be", 0, x.all(11) & 1);
        x.keep(0);
        due("11 kept ahead of bare", NONE, x.cross(0));
        due("18 kept", 1, x.status(2));
        due("11 no such house", NONE, x.cross(4));
        due("11 no such house", NONE, x.cross(-1));
        due("18 no such", 2, x.status(0));
        // AHEAD a million, BEHIND 0: a million by 3 is -3 by 3
        due("11 worth by a bare one", 1000002, x.cross(3));
        CrossedFavours full = Told.village("sc0m3;p;p;p;fn2;fa1b2n2");
        due("11 full ahead of coins", NONE, full.cross(1));
        due("18 full", 1, full.status(3));
        due("11 too few coins", NONE, full.cross(0));
        due("18 coins", 1, full.status(4));
        due("11 nothing changed", 2, full.owes(0, 1));
        due("11 nothing changed", 0, full.count(11));
        CrossedFavours even = Told.village("sm4c1;p;p;p;fn2;fa1b2n2");
        due("11 as many as there may be", 2, even.cross(1));
        due("11 as many as there may be", 4, even.owes(0, 2));
        due("11 no coins left", NONE, even.cross(1));
        Told.text(even, 1, "y:0");
        even.law(0);
        due("11 for nothing", 1, even.cross(1));
    }

    private static void singing() {
        CrossedFavours x = Told.village("sc5;" + LINE);
        due("12 no such song", NONE, x.sing(0));
        due("18 no such song", 1, x.status(0));
        Told.text(x, 2, "0121");
        Told.text(x, 2, "0 3 1");
        Told.text(x, 2, "9");
        due("12 sung", 4, x.sing(0));
        due("12 coins", 1, x.count(7));
        due("12 each is an act", 4, x.count(11));
        due("12 up to one that is not there", 1, x.sing(1));
        due("12 no coins for the first", 0, x.sing(0));
        due("12 no house at all", 0, x.sing(2));
        due("12 no such song", NONE, x.sing(3));
        due("12 no such song", NONE, x.sing(-1));
        due("18 status counts nothing else", 3, x.status(0));
        due("18 status counts nothing else", 0, x.status(4));
        CrossedFavours empty = new CrossedFavours();
        Told.text(empty, 2, "0");
        due("12 no village", NONE, empty.sing(0));
        due("18 no village", 1, empty.status(0));
    }

    private static void givingAndForgiving() {
        CrossedFavours x = Told.village("sm9;p;p;p");
        due("13 gives", 4, x.gives(0, 1, 4));
        due("13 gives back", 5, x.gives(1, 0, 9));
        due("13 owes", -5, x.owes(0, 1));
        due("13 as many as may be", 9, x.gives(1, 0, 4));
        due("13 full", HIDDEN, x.gives(1, 0, 1));
        due("13 the other way", -8, x.gives(0, 1, 1));
        due("13 out of bounds", HIDDEN, x.gives(0, 1, 0));
        due("13 out of bounds", HIDDEN, x.gives(0, 1, 10));
        due("13 alike", HIDDEN, x.gives(2, 2, 1));
        due("13 no such", HIDDEN, x.gives(0, 3, 0));
        due("13 no such", HIDDEN, x.gives(-1, -1, 99));
        due("18 full", 1, x.status(3));
        due("18 bounds", 3, x.status(1));
        due("18 no such", 2, x.status(0));
        due("13 acts", 4, x.count(11));
        due("14 forgives", -8, x.forgives(0, 1));
        due("14 none then", 0, x.owes(1, 0));
        due("14 there is none", HIDDEN, x.forgives(0, 1));
        due("14 alike", HIDDEN, x.forgives(1, 1));
        due("14 no such", HIDDEN, x.forgives(1, 3));
        due("18 none", 1, x.status(2));
        due("18 alike", 4, x.status(1));
        due("18 no such", 3, x.status(0));
        due("14 acts", 5, x.count(11));
    }

    private static void keepingAndCoins() {
        CrossedFavours x = Told.village("sc99;p;pk1");
        due("15 kept", 1, x.keep(0));
        due("15 not any more", 0, x.keep(0));
        due("15 not any more", 0, x.keep(1));
        due("15 no such house", NONE, x.keep(2));
        due("15 acts", 3, x.count(11));
        due("16 give", 149, x.give(50));
        due("16 give", 150, x.give(1));
        due("16 bounds", NONE, x.give(0));
        due("16 bounds", NONE, x.give(51));
        for (int i = 0; i < 16; i++) {
            x.give(50);
        }
        due("16 to 999", 999, x.give(49));
        due("16 above", NONE, x.give(1));
        due("18 above", 1, x.status(3));
        due("18 bounds", 2, x.status(1));
        due("18 no such what", NONE, x.status(6));
        due("18 no such what", NONE, x.status(-1));
        due("16 no village", NONE, new CrossedFavours().give(99));
    }

    // ---- 17, 19

    private static void yearsAndUndoing() {
        years();
        beyondTheLast();
        undoing();
    }

    private static int draw(long[] x, int j) {
        x[0] = x[0] * 6364136223846793005L + 1442695040888963407L;
        return (int) ((x[0] >>> 33) % j);
    }

    private static void years() {
        for (long seed : new long[] {0, 1, -1, 123456789, Long.MIN_VALUE, Long.MAX_VALUE}) {
            CrossedFavours x = Told.village("sc0m99;p;pk1;p;pw4;fn3;fa1b2n2;fa2b3;fa3b0");
            CrossedFavours y = Told.village("sc99m99;p;pk1;p;pw4;fn3;fa1b2n2;fa2b3;fa3b0");
            x.grace(5);
            long[] state = {seed};
            for (int i = 0; i < 12; i++) {
                y.cross(draw(state, 4));
                if (draw(state, 10) < 5) {
                    int one = draw(state, 4);
                    y.forgives(one, draw(state, 4));
                }
            }
            due("17 crossings, seed " + seed, y.count(6), x.years(12, seed));
            for (int i = 0; i < 16; i++) {
                due("17 owes, seed " + seed, y.owes(i / 4, i % 4), x.owes(i / 4, i % 4));
                due("17 log, seed " + seed, y.log(i, 1), x.log(i, 1));
            }
            due("17 for nothing", 0, x.count(7));
            due("17 each is one act", 12, x.count(11));
            due("17 one undone", 11, x.undo());
            for (int i = 0; i < 6; i++) {
                due("17 no status", 0, x.status(i));
            }
        }
        CrossedFavours x = Told.village("p;p;f");
        due("17 bounds", NONE, x.years(0, 1));
        due("17 bounds", NONE, x.years(31, 1));
        x.grace(0);
        due("17 most", 30, x.years(30, 1));
        due("17 no village", NONE, new CrossedFavours().years(1, 1));
    }

    private static void beyondTheLast() {
        CrossedFavours x = Told.village("p;p;f");
        x.grace(0);
        for (int i = 1; i <= 333; i++) {
            int crossings = x.years(30, i);
            if (crossings != 30 * i) {
                due("17 crossings", 30 * i, crossings);
            }
        }
        due("17 beyond", NONE, x.years(10, 5));
        due("17 to the last", 9999, x.years(9, 5));
        due("17 beyond", NONE, x.years(1, 5));
        due("11 beyond", NONE, x.cross(0));
        due("18 beyond", 1, x.status(5));
        Told.text(x, 2, "0");
        due("12 beyond", 0, x.sing(0));
        due("3 apart it does not matter", -x.owes(0, 1), x.after(0, 1, 0, 1));
        due("19 undone", 39, x.undo());
        due("11 the last again", true, x.cross(0) >= 0);
        due("11 the last", 9999, x.count(6));
    }

    private static void undoing() {
        CrossedFavours x = Told.village(LINE);
        due("19 none", NONE, x.undo());
        x.cross(1);
        x.gives(0, 1, 3);
        x.forgives(2, 1);
        x.keep(2);
        x.give(7);
        due("19 acts", 5, x.count(11));
        due("19 coins", 4, x.undo());
        due("19 coins", 19, x.count(7));
        due("19 kept", 3, x.undo());
        due("19 kept", 0, Told.house(x, 2, 2));
        due("19 forgiven", 2, x.undo());
        due("19 forgiven", 2, x.owes(2, 1));
        due("19 given", 1, x.undo());
        due("19 given", -1, x.owes(0, 1));
        due("19 crossed", 0, x.undo());
        due("19 crossed", 20, x.count(7));
        due("19 crossed", 3, Told.house(x, 1, 0));
        due("19 crossed", 0, Told.house(x, 1, 3));
        due("19 crossings", 0, x.count(6));
        due("19 log", NONE, x.log(0, 0));
        due("19 none", NONE, x.undo());
        x.cross(9);
        x.undo();
        due("19 status is not undone", 1, x.status(0));
        for (int i = 0; i < 45; i++) {
            x.keep(0);
        }
        due("19 the latest 40", 40, x.count(11));
        CrossedFavours y = Told.village("sc99;pw1;p;f");
        for (int i = 0; i < 75; i++) {
            y.cross(i % 3 == 0 ? 1 : 0);
        }
        due("20 the latest 60", 60, y.count(10));
        due("20 the 60th", 1, y.log(59, 0));
        due("20 no 61st", NONE, y.log(60, 0));
        for (int i = 0; i < 20; i++) {
            y.undo();
        }
        due("19 what the log had dropped", 55, y.count(10));
        due("19 what the log had dropped", 1, y.log(54, 0));
        due("19 what the log had dropped", 0, y.log(53, 0));
    }

    // ---- 21 to 24

    private static void songsApart() {
        CrossedFavours x = Told.village("sc0;" + LINE);
        Told.text(x, 2, "1");
        Told.text(x, 2, "01");
        Told.text(x, 2, "2 3");
        due("21 none", 1, x.after(0, 0, 0, 1));
        due("21 once", -1, x.after(0, 1, 0, 1));
        due("21 once", 2, x.after(0, 1, 0, 2));
        due("21 itself", 0, x.after(0, 1, 2, 2));
        due("21 twice", 0, x.after(0, 2, 0, 2));
        due("21 most", 1, x.after(0, 60, 0, 1));
        due("21 above", HIDDEN, x.after(0, 61, 0, 1));
        due("21 below", HIDDEN, x.after(0, -1, 0, 1));
        due("21 it can't be", HIDDEN, x.after(2, 1, 0, 1));
        due("21 not at all it can", 1, x.after(2, 0, 0, 1));
        due("21 no such song", HIDDEN, x.after(3, 0, 0, 1));
        due("21 no such house", HIDDEN, x.after(0, 1, 0, 3));
        due("21 no such house", HIDDEN, x.after(0, 1, -1, 0));
        due("21 all is as it was", 1, x.owes(0, 1));
        due("22 worth", 9, x.worthAfter(0, 1, 1));
        due("22 worth", 3, x.worthAfter(0, 2, 1));
        due("22 worth of another", 5, x.worthAfter(0, 1, 2));
        due("22 no such house", HIDDEN, x.worthAfter(0, 1, 3));
        due("22 above", HIDDEN, x.worthAfter(0, 61, 0));
        due("22 it can't be", HIDDEN, x.worthAfter(2, 1, 0));
        due("22 no such song", HIDDEN, x.worthAfter(-1, 1, 0));
        due("23 back by two", 2, x.again(0, 0));
        due("23 back by two", 2, x.again(0, 1));
        due("23 it can't be", NONE, x.again(2, 0));
        due("23 no such what", NONE, x.again(0, 2));
        due("23 no such what", NONE, x.again(0, -1));
        due("23 no such song", NONE, x.again(3, 0));
        x.keep(1);
        due("21 kept", HIDDEN, x.after(0, 1, 0, 1));
        due("23 kept", NONE, x.again(0, 0));
        due("24 kept", NONE, x.like(0));
        pentagon();
        likeness();
    }

    /** Two houses with one favour: of five worths each comes anew, then all is back but for the names. */
    private static void pentagon() {
        CrossedFavours x = Told.village("p;p;f");
        Told.text(x, 2, "01");
        Told.text(x, 2, "0");
        Told.text(x, 2, "0101010101");
        Told.text(x, 2, "01010");
        due("23 owes by once", 1, x.again(0, 0));
        due("23 worths by five", 5, x.again(0, 1));
        due("23 all by one of ten", 1, x.again(2, 1));
        due("23 owes by five is turned", 2, x.again(3, 0));
        int[] worths = {2, 1, 1, 3, 1, 2, 2, 1, 1, 3};
        due("22 worth", worths[0], x.worthAfter(1, 1, 0));
        due("22 worth", 2, x.worthAfter(0, 1, 0));
        due("22 worth", 3, x.worthAfter(0, 1, 1));
        due("22 worth", 2, x.worthAfter(0, 2, 0));
        due("22 worth", 1, x.worthAfter(0, 2, 1));
        due("24 like but for the names", 1, x.like(1));
        CrossedFavours slow = Told.village("p;p;p;p;p;p;fa3b2;fa0b3;fa4b3");
        Told.text(slow, 2, "423240");
        due("23 owes", 5, slow.again(0, 0));
        due("23 worths by the last time", 60, slow.again(0, 1));
        CrossedFavours wild = Told.village("sm99;p;p;fn3");
        Told.text(wild, 2, "01");
        due("23 worths not within 60", NONE, wild.again(0, 1));
        due("23 but owes", 1, wild.again(0, 0));
    }

    private static void likeness() {
        CrossedFavours x = Told.village("p;p;p;f;fa1b2");
        Told.text(x, 2, "0");
        Told.text(x, 2, "1");
        Told.text(x, 2, "02");
        Told.text(x, 2, "3");
        // 0 owes 1, 1 owes 2; behind 0: 1 owes 0 and 2, which no order of a row can be
        due("24 not like", 0, x.like(0));
        due("24 a ring is not like", 0, x.like(1));
        // behind 0 and 2: 1 owes 0, 2 owes 1
        due("24 like", 1, x.like(2));
        due("24 it can't be", NONE, x.like(3));
        due("24 no such song", NONE, x.like(4));
        CrossedFavours empty = new CrossedFavours();
        Told.text(empty, 2, "0");
        due("24 no village", NONE, empty.like(0));
        due("23 no village", NONE, empty.again(0, 0));
        due("21 no village", HIDDEN, empty.after(0, 0, 0, 0));
        due("22 no village", HIDDEN, empty.worthAfter(0, 0, 0));
        due("35 no village", NONE, empty.odds(0, 0));
    }

    // ---- 25 to 29

    private static void ways() {
        CrossedFavours two = Told.village("p;p;f");
        for (int n = 0; n <= 4; n++) {
            due("25 two tables at most", n == 0 ? 1 : 2, two.reach(n));
        }
        due("25 above", NONE, two.reach(5));
        due("25 below", NONE, two.reach(-1));
        // a row of three turns into rows, forks and the two rings of three: 14 tables in all
        CrossedFavours three = Told.village("p;p;p;f;fa1b2");
        due("25 as now", 1, three.reach(0));
        due("25 by one", 4, three.reach(1));
        due("25 by four", 14, three.reach(4));
        three.keep(0);
        three.keep(1);
        due("25 kept", 2, three.reach(4));
        CrossedFavours ring = Told.village(RING);
        due("26 one", 1, ring.straight(0));
        due("26 the least", 0, ring.straight(1));
        ring.keep(0);
        due("26 the next", 1, ring.straight(1));
        ring.keep(1);
        ring.keep(2);
        due("26 not at all", NONE, ring.straight(0));
        due("26 not at all", NONE, ring.straight(1));
        due("26 no such what", NONE, ring.straight(2));
        due("26 no such what", NONE, two.straight(-1));
        due("26 none", 0, two.straight(0));
        due("26 none", 0, two.straight(1));
        due("27 favours", 3, ring.fewest(4, 0));
        ring.keep(2);
        due("27 favours", 2, ring.fewest(1, 0));
        due("27 row", 2, ring.fewest(1, 1));
        due("27 by none", 3, ring.fewest(0, 0));
        due("27 by none", 0, ring.fewest(0, 1));
        due("27 above", NONE, ring.fewest(5, 0));
        due("27 below", NONE, ring.fewest(-1, 0));
        due("27 no such what", NONE, ring.fewest(1, 2));
        // three favours each way round: every crossing makes more of them
        CrossedFavours markov = Told.village("sm99;p;p;p;fn3;fa1b2n3;fa2b0n3");
        due("26 not by four", NONE, markov.straight(0));
        due("27 as now is best", 9, markov.fewest(4, 0));
        due("27 as now is best", 0, markov.fewest(4, 1));
        rowsOfTwo();
        ringsAndChains();
        CrossedFavours empty = new CrossedFavours();
        due("25 no village", NONE, empty.reach(0));
        due("26 no village", NONE, empty.straight(0));
        due("27 no village", NONE, empty.fewest(0, 0));
    }

    private static void rowsOfTwo() {
        // two rings of three apart: one crossing each, and 0 then 3 is the least row, told as 3
        CrossedFavours x = Told.village("p;p;p;p;p;p;f;fa1b2;fa2b0;fa3b4;fa4b5;fa5b3");
        due("26 two", 2, x.straight(0));
        due("26 the least row", 3, x.straight(1));
        x.keep(0);
        due("26 the least row", 13, x.straight(1));
        due("27 two", 4, x.fewest(4, 0));
        due("27 its row has two digits", 13, x.fewest(4, 1));
        due("27 by one", 5, x.fewest(1, 0));
        due("27 by one", 1, x.fewest(1, 1));
    }

    private static void ringsAndChains() {
        CrossedFavours x = Told.village("p;p;p;p;p;p;f;fa1b2;fa2b3;fa3b4;fa4b0;fa4b5");
        due("28 of five", 5, x.ring());
        due("29 steps", 4, x.chain(0, 4));
        due("29 the other way", 1, x.chain(4, 0));
        due("29 to the end", 5, x.chain(0, 5));
        due("29 by none", NONE, x.chain(5, 0));
        due("29 itself", 0, x.chain(2, 2));
        due("29 no such", NONE, x.chain(0, 6));
        due("29 no such", NONE, x.chain(-1, -1));
        x.gives(2, 0, 1);
        due("28 of three", 3, x.ring());
        x.gives(0, 3, 1);
        due("29 a short cut", 2, x.chain(0, 4));
        due("28 none", NONE, Told.village(LINE).ring());
        due("28 no village", NONE, new CrossedFavours().ring());
    }

    // ---- 30 to 32

    private static void sights() {
        CrossedFavours x = Told.village("p;p;p;f;fa1b2");
        due("31 no songs", 0, x.fits());
        due("32 nothing fits", NONE, x.ask(0, 1));
        Told.text(x, 2, "1");
        Told.text(x, 2, "0");
        Told.text(x, 2, "2");
        Told.text(x, 2, "07");
        due("31 all", 15, x.fits());
        due("30 no such", NONE, x.seen(0, 3, 1, 0, true));
        due("30 alike", NONE, x.seen(1, 1, 1, 0, true));
        due("30 bounds", NONE, x.seen(0, 1, 0, 0, true));
        due("30 bounds", NONE, x.seen(0, 1, 10, 0, true));
        due("30 bounds", NONE, x.seen(0, 1, 1, 100, true));
        due("30 bounds", NONE, x.seen(0, 1, 1, -100, true));
        // what 0 owes 1 behind once: by 1 -1, by 0 -1, by 2 1, by 07 it can't be; 0 owes 2: 1, 0, 0, -
        due("32 once tells most", 1, x.ask(0, 1));
        CrossedFavours edge = Told.village("p;p");
        due("30 lowest", 1, edge.seen(0, 1, 1, -99, false));
        due("30 highest", 2, edge.seen(1, 0, 9, 99, false));
        due("30 seen", 1, x.seen(0, 1, 1, -1, true));
        due("31 fits", 3, x.fits());
        due("32 never told apart by these two", 1, x.ask(0, 1));
        due("32 once", 1, x.ask(0, 2));
        due("30 seen not", 2, x.seen(0, 2, 1, 1, false));
        due("31 fits", 2, x.fits());
        due("30 seen not so often", 3, x.seen(1, 2, 9, 99, false));
        due("31 fits", 2, x.fits());
        x.cross(0);
        x.gives(0, 2, 5);
        due("31 from as told, whatever came since", 2, x.fits());
        for (int i = 4; i <= 10; i++) {
            due("30 seen", i, x.seen(1, 2, 1, 99, false));
        }
        due("30 there are ten", NONE, x.seen(1, 2, 1, 99, false));
        due("32 no such", NONE, x.ask(0, 3));
        due("32 alike", NONE, x.ask(1, 1));
        CrossedFavours y = Told.village("p;p;p;f;fa1b2");
        Told.text(y, 2, "07");
        Told.text(y, 2, "0");
        y.seen(0, 1, 1, -1, false);
        due("31 it can't be, so it did not", 1, y.fits());
        y.seen(0, 1, 1, -1, true);
        due("31 none", 0, y.fits());
        due("32 none", NONE, y.ask(0, 1));
        askLater();
        CrossedFavours empty = new CrossedFavours();
        due("30 no village", NONE, empty.seen(0, 1, 1, 0, true));
        due("31 no village", NONE, empty.fits());
        due("32 no village", NONE, empty.ask(0, 1));
    }

    private static void askLater() {
        // what 0 owes 2 behind once: 0 by both; behind twice: -1 by 01, 0 by 02
        CrossedFavours x = Told.village("p;p;p;f;fa1b2");
        Told.text(x, 2, "01");
        Told.text(x, 2, "02");
        due("32 twice", 2, x.ask(0, 2));
        x.cross(1);
        due("32 from as told", 2, x.ask(0, 2));
        // a third that can't be is apart from both, and the two are still alike behind once
        Told.text(x, 2, "9");
        due("32 one that can't be", 2, x.ask(0, 2));
        // with a fourth that can't be two of four are alike at best, behind once already
        Told.text(x, 2, "8");
        due("32 those that can't be are alike", 1, x.ask(0, 2));
        CrossedFavours late = Told.village("p;p;p;p;fa1b0;fa1b2;fa3b2");
        Told.text(late, 2, "102323");
        Told.text(late, 2, "22");
        for (int n = 1; n <= 8; n++) {
            due("32 alike behind " + n, late.after(0, n, 0, 1), late.after(1, n, 0, 1));
        }
        due("32 behind nine at last", 9, late.ask(0, 1));
    }

    // ---- 33 to 37

    private static void chances() {
        games();
        odds();
        CrossedFavours x = Told.village(LINE);
        due("36 shares", 333, x.shares(1, 999));
        due("36 shares", 666, x.shares(2, 999));
        due("36 cut", 33, x.shares(1, 100));
        due("36 none in", 0, x.shares(0, 999));
        due("36 of none", 0, x.shares(2, 0));
        due("36 bounds", NONE, x.shares(2, 1000));
        due("36 bounds", NONE, x.shares(2, -1));
        due("36 no such", NONE, x.shares(3, 1));
        due("36 no favours", 0, Told.village("p;p").shares(0, 9));
        all();
    }

    private static void games() {
        CrossedFavours x = Told.village(RING + ";pk1;fa3b0n2");
        // 0: IN 1 + 2, OUT 1
        due("33 nothing", 2, x.game(0, 1, 0, 0, 0));
        due("33 the second", 0, x.game(0, 1, 0, 0, 1));
        due("33 turned, 1 less", -3, x.game(0, 1, 1, 0, 0));
        due("33 can't be, 1 less all the same", 1, x.game(3, 0, 1, 0, 0) + 4);
        due("33 alike", HIDDEN, x.game(0, 0, 0, 0, 0));
        due("33 no such", HIDDEN, x.game(0, 4, 0, 0, 0));
        due("33 bounds", HIDDEN, x.game(0, 1, 2, 0, 0));
        due("33 bounds", HIDDEN, x.game(0, 1, 0, -1, 0));
        due("33 bounds", HIDDEN, x.game(0, 1, 0, 0, 2));
        due("33 no village", HIDDEN, new CrossedFavours().game(0, 1, 0, 0, 0));
        // one favour from 0 to 1: nothing -1, +1; 0 alone: 0, -1; 1 alone: 1, -2; both: -2, 0
        CrossedFavours two = Told.village("p;p;f");
        due("33 both", -2, two.game(0, 1, 1, 1, 0));
        due("33 both", 0, two.game(0, 1, 1, 1, 1));
        due("34 how many", 0, two.rests(0, 1, NONE));
        due("34 no such", NONE, two.rests(0, 1, 0));
        CrossedFavours apart = Told.village("p;p;p");
        due("34 nothing is best", 1, apart.rests(0, 1, NONE));
        due("34 nothing is best", 0, apart.rests(0, 1, 0));
        due("34 no such", NONE, apart.rests(0, 1, 1));
        due("34 no such", NONE, apart.rests(0, 1, -2));
        due("34 alike", NONE, apart.rests(1, 1, NONE));
        due("34 no such house", NONE, apart.rests(1, 3, NONE));
        // each owes a third: both are best off when crossed
        CrossedFavours both = Told.village("p;p;p;fb2n2;fa1b2n2");
        due("34 both", 11, both.rests(0, 1, 0));
        due("34 both", 1, both.rests(0, 1, NONE));
        due("34 no village", NONE, new CrossedFavours().rests(0, 1, NONE));
    }

    private static void odds() {
        CrossedFavours x = Told.village("p;p;p;f;fa1b2");
        Told.text(x, 2, "1");
        Told.text(x, 2, "2");
        Told.text(x, 2, "01201201");
        Told.text(x, 2, "012012012");
        due("35 a ring for sure", 0, x.odds(0, 0));
        due("35 never", 1000000000, x.odds(0, 100));
        due("35 by chance", 370000000, x.odds(0, 37));
        due("35 behind the last one the first", 1000000000, x.odds(1, 100));
        due("35 eight digits", true, x.odds(2, 33) >= 0);
        due("35 nine digits", NONE, x.odds(3, 33));
        due("35 bounds", NONE, x.odds(0, 101));
        due("35 bounds", NONE, x.odds(0, -1));
        due("35 no such", NONE, x.odds(4, 50));
        CrossedFavours y = Told.village("p;p;p;f;fa1b2");
        Told.text(y, 2, "1 9");
        Told.text(y, 2, "91");
        Told.text(y, 2, "8 2 0");
        due("35 nothing of one that is no house", 370000000, y.odds(0, 37));
        due("35 nothing of one that is no house", 370000000, y.odds(1, 37));
        due("35 wherever", 1000000000, y.odds(2, 100) + y.odds(2, 0) - 1000000000);
        // thirds of ten to the nine are cut at each digit: 9 digits of chance 1 hundredth
        CrossedFavours z = Told.village("p;p;p;f;fa1b2");
        Told.text(z, 2, "11111");
        z.keep(2);
        due("35 cut", cut(5, 1000000000L, true), z.odds(0, 1));
    }

    /** Of parts that stand ahead of so many digits 1 (house 2 being kept), those behind which 1 was crossed evenly often. */
    private static long cut(int digits, long parts, boolean even) {
        if (digits == 0) {
            return even ? parts : 0;
        }
        long slip = parts / 100;
        return cut(digits - 1, parts - slip, !even) + cut(digits - 1, slip, even);
    }

    private static void all() {
        CrossedFavours x = Told.village("pw2t1;pw5t9;pw5t9k1;p;p;fn2;fa1b2n2;fa4b0");
        int[] want = {1, 0, 1, 0, 1, 5, 3, 16, 4, 8, 4, 27, 4, 2};
        for (int what = 0; what < want.length; what++) {
            due("37 all " + what, want[what], x.all(what));
        }
        due("37 no such", HIDDEN, x.all(14));
        due("37 no such", HIDDEN, x.all(-1));
        x.cross(3);
        due("37 crossest", 3, x.all(3));
        CrossedFavours ring = Told.village(RING);
        due("37 levels of a ring", NONE, ring.all(12));
        due("37 can", 7, ring.all(11));
        CrossedFavours apart = Told.village("p;p;pk1");
        due("37 levels of none", 1, apart.all(12));
        due("37 most of none", 0, apart.all(13));
        due("37 apart", 7, apart.all(9));
        due("37 can", 3, apart.all(11));
        CrossedFavours full = Told.village("sm3;p;p;p;fn2;fa1b2n2");
        due("37 can, one being full", 5, full.all(11));
        due("37 no village", HIDDEN, new CrossedFavours().all(0));
    }

    // ---- 38 to 40

    private static void imagesAndCounts() {
        CrossedFavours x = Told.village(LINE);
        due("39 none", NONE, x.back());
        x.cross(1);
        x.keep(2);
        due("38 image", 1, x.image());
        due("38 acts stay", 2, x.count(11));
        x.cross(0);
        x.keep(2);
        x.give(9);
        x.gives(0, 1, 2);
        due("39 back", 1, x.back());
        due("39 owes", 1, x.owes(1, 0));
        due("39 worth", 2, Told.house(x, 0, 0));
        due("39 worth", 9, Told.house(x, 1, 0));
        due("39 how often", 0, Told.house(x, 0, 3));
        due("39 kept", 1, Told.house(x, 2, 2));
        due("39 coins", 19, x.count(7));
        due("39 crossings", 1, x.count(6));
        due("39 log", 1, x.count(10));
        due("39 log", 1, x.log(0, 0));
        due("39 none can be undone", 0, x.count(11));
        due("39 none can be undone", NONE, x.undo());
        x.cross(0);
        due("39 once more", 1, x.back());
        x.cross(0);
        due("38 instead", 2, x.image());
        x.undo();
        due("39 the newer one", 2, x.back());
        due("39 the newer one", 17, Told.house(x, 0, 0));
        due("38 no village", NONE, new CrossedFavours().image());
        due("39 no village", NONE, new CrossedFavours().back());
        Told.text(x, 1, "y:1");
        x.law(0);
        Told.text(x, 2, "1");
        Told.text(x, 2, "1");
        Told.tape(x, "abc");
        x.seen(0, 1, 1, 1, true);
        x.give(3);
        int[] want = {3, 20, 1, 2, 3, 0, 2, 21, 2, 1, 2, 1};
        for (int what = 0; what < want.length; what++) {
            due("40 count " + what, want[what], x.count(what));
        }
        due("40 others", HIDDEN, x.count(12));
        due("40 others", HIDDEN, x.count(-1));
    }
}
