/** Of texts (part 1 of the terms, promises 1 to 5 and 9), each sentence that names a boundary, in the document's words and order. */
public final class TextEdgesTest {
    private static final Told TOLD = new Told("edges of texts");
    private static final int NONE = CrossedFavours.NONE;
    private static final int HIDDEN = CrossedFavours.HIDDEN;
    private static final int VILLAGE = 0;
    private static final int LAW = 1;
    private static final int SONG = 2;

    private TextEdgesTest() {
    }

    public static void main(String[] args) {
        clauses();
        items();
        lawParts();
        lawNumbers();
        lawWorths();
        songs();
        blanks();
        endsTooEarly();
        faultsAtASign();
        newObject();
        feedAndEnd();
        faultAndText();
        villageInstead();
        TOLD.close();
    }

    private static void due(String call, long want, long got) {
        TOLD.due(call, want, got);
    }

    private static void due(String call, boolean want, boolean got) {
        TOLD.due(call, want, got);
    }

    /** Texts and their faults by turns. */
    private static void faults(int sort, String... textsAndFaults) {
        for (int i = 0; i + 1 < textsAndFaults.length; i += 2) {
            due("fault " + sort + " of " + textsAndFaults[i], Integer.parseInt(textsAndFaults[i + 1]), Told.fault(sort, textsAndFaults[i]));
        }
    }

    private static void settles(String text, int houses) {
        due("text 0 of " + text, houses, Told.text(new CrossedFavours(), VILLAGE, text));
    }

    private static String times(String text, int n) {
        return text.repeat(n);
    }

    // ---- villages

    private static void clauses() {
        TOLD.says("s (its RULES; one at most)");
        faults(VILLAGE, "p;p", "-1", "s;p;p", "-1", "p;s;p", "-1", "p;p;s", "-1", "s;s", "2", "s;p;p;s", "6", "sc1;p;p;sm1", "8");
        TOLD.says("p (a HOUSE; 2 .. 6)");
        faults(VILLAGE, "s", "1", "p", "1", "p;s", "3");
        for (int houses = 2; houses <= 6; houses++) {
            settles("p" + times(";p", houses - 1), houses);
        }
        faults(VILLAGE, "p;p;p;p;p;p;p", "12", "p;p;p;p;p;p;f;s;pw1", "16");
        TOLD.says("f (FAVOURS; none to 12)");
        faults(VILLAGE, "p;p;s", "-1", "p;p;f", "-1", "p;p" + times(";f", 12), "-1", "p;p" + times(";f", 13), "28",
            times("f;", 12) + "p;p", "-1", times("f;", 13) + "p;p", "24");
        TOLD.says("in any order");
        faults(VILLAGE, "f;p;s;p", "-1", "fa5b4;s;p;p;p;p;p;p", "-1", "p;f;p", "-1");
        TOLD.says("then ITEMS, none or more: a letter, each once at most in a CLAUSE, and a number (one or two digits)");
        faults(VILLAGE, "s;p;p;f", "-1", "sm2c1;pk1t1w1;p;fn1b0a1", "-1", "sc01m02;pw03t04k00;p;fa00b01n01", "-1",
            "pw1;pw1", "-1", "pw1w1;p", "3", "pw1t1k1w1;p", "7", "sc1c1;p;p", "3", "sm1c1m1;p;p", "5", "p;p;fa0a0", "7", "p;p;fa0b1n1b1", "11",
            "p;p1", "3", "p;pw", "4", "p;pwt1", "4", "p;p;x", "4", "p;p;1", "4");
    }

    private static void items() {
        TOLD.says("c COINS (0 .. 99; 20 without)");
        item("s", 'c', ";p;p", 0, 99);
        due("coins 0", 0, Told.village("sc0;p;p").count(7));
        due("coins 99", 99, Told.village("sc99;p;p").count(7));
        due("coins without", 20, Told.village("p;p").count(7));
        due("coins without, rules told", 20, Told.village("sm3;p;p").count(7));
        TOLD.says("m how MANY favours there may be between two (1 .. 99; 20)");
        item("s", 'm', ";p;p", 1, 99);
        due("many 1", 1, Told.village("sm1;p;p").count(1));
        due("many 99", 99, Told.village("sm99;p;p").count(1));
        due("many without", 20, Told.village("p;p").count(1));
        due("many without, rules told", 20, Told.village("sc3;p;p").count(1));
        TOLD.says("w WORTH (1 .. 9; 1)");
        itemOfHouse('w', 0, 1, 9, 1);
        TOLD.says("t TEMPER (0 .. 9; 2)");
        itemOfHouse('t', 1, 0, 9, 2);
        TOLD.says("k whether KEPT (0, 1; 0)");
        itemOfHouse('k', 2, 0, 1, 0);
        TOLD.says("a who owes, b whom (0 .. 5 each; 0, 1)");
        item("p;p;p;p;p;p;fb0", 'a', "", 0, 5, 0);
        item("p;p;p;p;p;p;fa5", 'b', "", 0, 5, 5);
        due("without both 0 owes 1", 1, Told.village("p;p;f").owes(0, 1));
        due("without a 0 owes", 1, Told.village("p;p;p;fb2").owes(0, 2));
        due("without b 1 is owed", 1, Told.village("p;p;p;fa2").owes(2, 1));
        due("5 owes 0", 1, Told.village("p;p;p;p;p;p;fa5b0").owes(5, 0));
        due("0 owes 5", 1, Told.village("p;p;p;p;p;p;fa0b5").owes(0, 5));
        TOLD.says("n how many (1 .. 9; 1)");
        item("p;p;f", 'n', "", 1, 9);
        due("favours 9", 9, Told.village("p;p;fn9").owes(0, 1));
        due("favours 1", 1, Told.village("p;p;fn1").owes(0, 1));
        due("favours without", 1, Told.village("p;p;f").owes(0, 1));
    }

    private static void itemOfHouse(char letter, int what, int low, int high, int without) {
        item("p;p", letter, "", low, high);
        due(letter + " lowest", low, Told.house(Told.village("p;p" + letter + low), 1, what));
        due(letter + " highest", high, Told.house(Told.village("p;p" + letter + high), 1, what));
        due(letter + " without", without, Told.house(Told.village("p;p"), 1, what));
    }

    private static void item(String ahead, char letter, String behind, int low, int high) {
        item(ahead, letter, behind, low, high, NONE);
    }

    /** Every number of one, two and three digits behind a letter; by one of them a house may come to owe itself. */
    private static void item(String ahead, char letter, String behind, int low, int high, int itself) {
        int first = ahead.length() + 1;
        for (int digits = 1; digits <= 3; digits++) {
            int end = digits == 1 ? 10 : digits == 2 ? 100 : 1000;
            for (int n = 0; n < end; n++) {
                String text = ahead + letter + ("" + (end + n)).substring(1) + behind;
                int want = n == itself ? text.length() : NONE;
                want = digits == 3 || n < low || n > high ? first + digits - 1 : want;
                due("fault of " + text, want, Told.fault(VILLAGE, text));
            }
        }
    }

    // ---- laws

    private static void lawParts() {
        TOLD.says("LAWS (4 at most) are TEXTS: CLAUSES with ; between, one at least");
        faults(LAW, "", "0", "y:1", "-1", "y:1;", "4", ";y:1", "0", "y:1;y:2;y:3", "-1", "y:1;;y:2", "4", "y:1y:2", "3");
        faults(LAW, "y:1" + times(";y:1", 59), "-1", "y:1" + times(";y:1", 59) + ";", "240");
        CrossedFavours x = new CrossedFavours();
        for (int i = 0; i < 4; i++) {
            due("law " + i, i, Told.text(x, LAW, "y:1"));
        }
        due("a fifth law", NONE, Told.text(x, LAW, "y:1"));
        TOLD.says("y, : , perhaps CONDITION ?, then SUM");
        faults(LAW, "y", "1", "y:", "2", "y1", "1", ":1", "0", "y:1", "-1", "y:1=1?1", "-1", "y:1=1", "5", "y:1=1?", "6", "y:?1", "2", "y:1?1", "3",
            "y:1=1?1=1", "7", "y:1=1?1?1", "7", "y:1=1?!1=1", "6", "y:1=1?(1)", "6");
        TOLD.says("CONDITION: TRUTHS with | between; TRUTH: UNITS with & between");
        faults(LAW, "y:1=1|?1", "6", "y:|1=1?1", "2", "y:1=1||1=1?1", "6", "y:1=1|1?1", "7", "y:1=1&?1", "6", "y:&1=1?1", "2", "y:1=1|&1=1?1", "6",
            "y:1=1|1=1&1=1|1=1?1", "-1");
        TOLD.says("UNIT: ! UNIT, ( CONDITION ), or SUM, one of = < >, SUM");
        faults(LAW, "y:!?1", "3", "y:!1?1", "4", "y:!1=1?1", "-1", "y:()?1", "3", "y:(1)?1", "4", "y:(1=1?1", "6", "y:(1=1)?1", "-1", "y:1==1?1", "4",
            "y:1<=1?1", "4", "y:1<1>1?1", "5", "y:=1?1", "2", "y:1=?1", "4", "y:1<1?1", "-1", "y:1>1?1", "-1", "y:(1=1|1<1)&!(1>1)?1", "-1",
            "y:!(1=1)=1?1", "8", "y:1=1!?1", "5");
        TOLD.says("SUM: TERMS with + or - between; TERM: ATOMS with * or / between");
        faults(LAW, "y:+1", "2", "y:-1", "2", "y:*1", "2", "y:1+", "4", "y:1/", "4", "y:1+-1", "4", "y:1*/1", "4", "y:1+*1", "4", "y:1+1-1*1/1", "-1");
        TOLD.says("a letter (i o t n w d), [ SUM ]");
        faults(LAW, "y:i", "-1", "y:o", "-1", "y:t", "-1", "y:n", "-1", "y:w", "-1", "y:d", "-1", "y:k", "2", "y:y", "2", "y:I", "2", "y:io", "3",
            "y:1i", "3", "y:i1", "3", "y:[i]", "-1", "y:[]", "3", "y:[i", "4", "y:i]", "3", "y:[i)", "4", "y:[i=1]", "4", "y:[i]1", "5");
        TOLD.says("(A CLAUSE that goes on with ! or ( behind its : has a CONDITION.)");
        faults(LAW, "y:!1", "4", "y:(1)", "4", "y:(1=1)", "7", "y:!1=1", "6", "y:(1=1)+1", "7", "y: (1+1)*2", "7", "y:[1+1]*2", "-1");
        TOLD.says("At most six of ( [ ! within one another.");
        deepest("!", "1=1", "", "?1");
        deepest("(", "1=1", ")", "?1");
        deepest("[", "1", "]", "");
        faults(LAW, "y:!(!(!([1]=1)))?1", "8", "y:!(!(!(1=1)))?1", "-1", "y:!!!!!![1]=1?1", "8", "y:!!!!!1=[1]?1", "-1", "y:!!!!!!1=[1]?1", "10",
            "y:[[[1]+[[1]]]*[[1]]]+[[[[[[1]]]]]]", "-1", "y:(1=[[[[[1]]]]])?1", "-1", "y:(1=[[[[[[1]]]]]])?1", "10");
    }

    /** Six of a sign one within another, then a seventh; and six more behind those six, which are not within them. */
    private static void deepest(String open, String inmost, String close, String behind) {
        String six = times(open, 6) + inmost + times(close, 6);
        faults(LAW, "y:" + six + behind, "-1", "y:" + times(open, 7) + inmost + times(close, 7) + behind, "8",
            "y:" + six + (behind.isEmpty() ? "+" : "&") + six + behind, "-1", "y:" + six + behind + ";y:" + six + behind, "-1");
    }

    /** COST of house 1, of WORTH 3, TEMPER 7, IN 1, OUT 2. */
    private static void cost(String law, int want) {
        due("cost by " + law, want, Told.house(Told.ruled("pw2;pw3t7;pw5;f;fa1b2n2", law), 1, 6));
    }

    private static void is(String condition) {
        cost("y:" + condition + "?4;y:5", 4);
    }

    private static void isNot(String condition) {
        cost("y:" + condition + "?4;y:5", 5);
    }

    private static void lawNumbers() {
        TOLD.says("ATOM: a number (1 to 4 digits)");
        faults(LAW, "y:1", "-1", "y:12", "-1", "y:123", "-1", "y:1234", "-1", "y:9999", "-1", "y:0000", "-1", "y:12345", "6", "y:00000", "6", "y:1+12345", "8");
        is("9999-9998=1");
        is("0009=9");
        TOLD.says("Behind each sign numbers are within -1,000,000 .. 1,000,000");
        is("9999*100+99-9999*100=99");
        is("9999*100+100-9999*100=100");
        is("9999*100+101-9999*100=100");
        is("9999*9999-9999*100=100");
        is("9999*9999*9999*9999*9999-9999*100=100");
        is("0-9999*100-99+9999*100=0-99");
        is("0-9999*100-100+9999*100=0-100");
        is("0-9999*100-101+9999*100=0-100");
        is("[0-9999]*9999*9999+9999*100=0-100");
        is("[0-9999]*9999*[0-9999]-9999*100=100");
        is("9999*9999+9999*9999=9999*9999");
        is("9999*9999-9999*9999=0");
        is("9999*9999/100=9999+1");
        TOLD.says("/ cuts towards 0, by 0 gives 0");
        is("7/2=3");
        is("[0-7]/2=0-3");
        is("7/[0-2]=0-3");
        is("[0-7]/[0-2]=3");
        is("1/2=0");
        is("[0-1]/2=0");
        is("7/0=0");
        is("[0-7]/0=0");
        is("0/0=0");
        is("7/[i-i]=0");
        is("5+7/n=5");
    }

    private static void lawWorths() {
        TOLD.says("WORTH of a LAW: the SUM of the first CLAUSE whose CONDITION holds (or has none), 0 without.");
        cost("y:i=1?4;y:i=1?5", 4);
        cost("y:i=2?4;y:i=1?5", 5);
        cost("y:i=2?4;y:5;y:i=1?6", 5);
        cost("y:i=2?4;y:i=3?5", 0);
        isNot("i<1");
        is("i=1");
        isNot("i>1");
        isNot("2<o");
        is("2=o");
        isNot("2>o");
        is("1<o");
        is("3>o");
        TOLD.says("held within 0 .. 9 (none at first: 1)");
        cost("y:0", 0);
        cost("y:0-1", 0);
        cost("y:0-9999*9999", 0);
        cost("y:8", 8);
        cost("y:9", 9);
        cost("y:10", 9);
        cost("y:9999*9999", 9);
        CrossedFavours x = Told.village("p;p");
        due("none at first", 1, Told.house(x, 0, 6));
        Told.text(x, LAW, "y:5");
        due("none holds yet", 1, Told.house(x, 0, 6));
    }

    // ---- songs, blanks

    private static void songs() {
        TOLD.says("SONGS (4 at most) are TEXTS: 1 to 16 digits (HOUSES, one behind the other).");
        faults(SONG, "", "0", " ", "1", "0", "-1", "0123456789012345", "-1", "01234567890123456", "16", "012x", "3", ";", "0", "0,1", "1", "-1", "0");
        CrossedFavours x = new CrossedFavours();
        due("one digit", 0, Told.text(x, SONG, "7"));
        due("16 digits", 1, Told.text(x, SONG, "0123456789012345"));
        due("a third", 2, Told.text(x, SONG, "7"));
        due("a fourth", 3, Told.text(x, SONG, "8"));
        due("a fifth", NONE, Told.text(x, SONG, "9"));
        due("how many of the shortest", 1, x.sung(0, NONE));
        due("how many of the longest", 16, x.sung(1, NONE));
        due("the last of the longest", 5, x.sung(1, 15));
        TOLD.says("(A HOUSE of a SONG that is not there is no FAULT: a crossing of it can't be.)");
        faults(SONG, "9876", "-1");
        CrossedFavours y = Told.singing("p;p", "02", "2");
        due("crossed up to it", 1, y.sing(0));
        due("not crossed at all", 0, y.sing(1));
        due("apart it can't be", HIDDEN, y.after(0, 1, 0, 1));
        TOLD.says("NONE: no such ones.");
        due("behind the last digit", NONE, x.sung(1, 16));
        due("ahead of the first", NONE, x.sung(1, -2));
        due("no such song", NONE, x.sung(4, 0));
        due("no such song, how many", NONE, x.sung(4, NONE));
        due("no such song", NONE, x.sung(-1, 0));
        due("far out", NONE, x.sung(Integer.MAX_VALUE, Integer.MIN_VALUE));
        due("far out", NONE, x.sung(0, Integer.MAX_VALUE));
        due("no songs", NONE, new CrossedFavours().sung(0, NONE));
    }

    private static void blanks() {
        TOLD.says("Blanks (32) may stand between all signs of all three, not within numbers.");
        faults(VILLAGE, " s c 1 m 22 ; p w 3 t 4 k 1 ; p ; f a 1 b 0 n 2 ", "-1", "sc1 2;p;p", "4", "p;pw1 1", "6", "   p  ;   p   ", "-1", "p;p\t", "3",
            "p;p;fa 0b 1n 9", "-1", "p;p;fn1 0", "8");
        faults(LAW, "  y : ! ( i = [ 12 + o ] ) & 3 > d ? 4 * 5 ; y : 6 ", "-1", "y:1 2", "4", "y:12 34", "5", "y:i\n", "3");
        faults(SONG, " 0 1  2   3 ", "-1", times("0 ", 16), "-1", times(" 0", 17), "33", "0\t1", "1");
        due("songs without their blanks", 4, Told.singing("p;p", " 0 1  1   0 ").sung(0, NONE));
    }

    // ---- faults

    private static void endsTooEarly() {
        TOLD.says("FAULT: the first byte at which no such TEXT can go on (the length, if it ends too early");
        faults(VILLAGE, "", "0", "  ", "2", "p;", "2", "p;p;", "4", "p;p;  ", "6", "p;p;sc", "6", "p;p;sc ", "7");
        faults(LAW, "", "0", " ", "1", "y", "1", "y ", "2", "y:", "2", "y:1+", "4", "y:[1", "4", "y:(1=1", "6", "y:1=1", "5", "y:1;", "4", "y:1; ", "5");
        faults(SONG, "", "0", "   ", "3");
        TOLD.says("with fewer than two HOUSES");
        faults(VILLAGE, "p", "1", "p ", "2", "s", "1", "f", "1", "s;f;f", "5", "s;p;f", "5", "s;p;f;p", "-1");
        TOLD.says("with FAVOURS of or to one that is not told");
        faults(VILLAGE, "p;p;fa2b0", "9", "p;p;fb2", "7", "p;p;fa5b0", "9", "p;p;p;fa2b0", "-1", "p;p;p;fa3b0", "11", "p;p;p;p;p;fb5", "13",
            "fb2;p;p;p", "-1", "fb2;p;p", "7", "p;p;fb2 ", "8");
        TOLD.says("of one to itself");
        faults(VILLAGE, "p;p;fa1", "7", "p;p;fb0", "7", "p;p;fa1b1", "9", "p;p;fa1b1;f", "11", "p;p;fa0b0n1", "11");
        TOLD.says("with one that OWES another, all FAVOURS told between both together (2), more than there may be)");
        faults(VILLAGE, "sm2;p;p;fn2", "-1", "sm2;p;p;fn3", "11", "sm2;p;p;fa1b0n3", "15", "sm2;p;p;fn2;f", "13", "sm2;p;p;fn3;fa1b0", "-1",
            "sm2;p;p;fa1b0n5;fn3", "-1", "sm2;p;p;fa1b0n5;fn2", "19", "sm1;p;p;p;f;fb2;fa1b2", "-1", "fn3;p;p;sm2", "11",
            "p;p;fn9;fn9;fn2", "-1", "p;p;fn9;fn9;fn3", "15", "sm99;p;p" + times(";fn9", 11), "-1", "sm99;p;p" + times(";fn9", 12), "56");
        due("what 12 times 9 less 9 is", 99, Told.village("sm99;p;p" + times(";fn9", 11)).owes(0, 1));
    }

    private static void faultsAtASign() {
        TOLD.says("a number out of bounds is wrong at its last digit");
        faults(VILLAGE, "sm0;p;p", "2", "sm00;p;p", "3", "pw0;p", "2", "pw10;p", "3", "pt10", "3", "pt99", "3", "pk2", "2", "pk10", "3", "fa6", "2", "fb06", "3",
            "fn0", "2", "fn10", "3", "pw 0", "3", "sc1m 00", "6");
        TOLD.says("a third digit (whatever stands ahead of it; a fifth one in a LAW) itself");
        faults(VILLAGE, "sc100;p;p", "4", "sc000;p;p", "4", "sm000", "4", "pw001", "4", "pw100", "4", "pw999", "4", "pk200", "4", "fa600", "4", "fn000", "4");
        faults(LAW, "y:12345", "6", "y:00000", "6", "y:1+99999", "8", "y:123456", "6");
        TOLD.says("a letter that was there");
        faults(VILLAGE, "sc1c", "3", "sm1m", "3", "sc1m1c", "5", "pw1w", "3", "pt1t", "3", "pk1k", "3", "pk1w1t1k", "7", "fa1a", "3", "fb1b", "3", "fn1n", "3",
            "fn1 n", "4");
        TOLD.says("a second s");
        faults(VILLAGE, "s;s", "2", "p;s;p;s", "6", "s; s", "3");
        TOLD.says("a seventh p");
        faults(VILLAGE, "p;p;p;p;p;p;p", "12", "p;p;p;p;p;p; p", "13", "p;p;p;p;p;p;pw0", "12");
        TOLD.says("a 13th f");
        faults(VILLAGE, times("f;", 12) + "f", "24", times("f;", 12) + "p;fa0", "26");
        TOLD.says("a 17th digit of a SONG");
        faults(SONG, times("0", 17), "16", times("0", 16) + "  0", "18", times("0", 16) + "x", "16", times("0", 18), "16");
        TOLD.says("a seventh of ( [ ! in a LAW at it.");
        faults(LAW, "y:!!!!!!!", "8", "y:(((((((", "8", "y:[[[[[[[", "8", "y:!(!(!([", "8", "y:![", "4", "y:!!!!! ! !", "10", "y:!!!!!!(", "8",
            "y:!!!!!![", "8", "y:((((((!", "8", "y:(((((([", "8", "y:1=[[[[[[[", "10", "y:1=1?[[[[[[[", "12");
    }

    // ---- promises 1 to 5

    private static void newObject() {
        TOLD.says("`CrossedFavours()`: No VILLAGE.");
        CrossedFavours x = new CrossedFavours();
        int[] counts = {0, 0, 0, 0, 0, NONE, 0, 0, 2, 0, 0, 0};
        for (int what = 0; what < counts.length; what++) {
            due("count " + what, counts[what], x.count(what));
        }
        for (int what = 0; what < 14; what++) {
            due("all " + what, HIDDEN, x.all(what));
        }
        for (int what = 0; what < 7; what++) {
            due("house 0, " + what, Told.THROWN, Told.house(x, 0, what));
        }
        due("owes", HIDDEN, x.owes(0, 0));
        due("an empty tape's fault", 0, x.fault(0));
    }

    private static CrossedFavours fed(int bytes) {
        CrossedFavours x = new CrossedFavours();
        Told.tape(x, times("p", bytes));
        return x;
    }

    private static void feedAndEnd() {
        TOLD.says("(of each number the highest first; bytes of 0 are left out)");
        CrossedFavours x = new CrossedFavours();
        due("a byte of each place", 4, x.feed('0' << 24, '1' << 16, '2' << 8, '3', 0));
        due("twenty", 24, x.feed(0x34353637, 0x38393031, 0x32333435, 0x36373839, 0x30313233));
        due("none", 24, x.feed(0, 0, 0, 0, 0));
        x.end(16);
        due("a song", 0, x.text(SONG));
        for (int i = 0; i < 16; i++) {
            due("digit " + i, i % 10, x.sung(0, i));
        }
        due("bytes of 255 are 255", 20, new CrossedFavours().feed(-1, -1, -1, -1, -1));
        due("bytes of 128", 1, new CrossedFavours().feed(Integer.MIN_VALUE, 0, 0, 0, 0));
        due("a byte between two of 0", 1, new CrossedFavours().feed(0, 0, 0x00700000, 0, 0));
        TOLD.says("NONE: more than 240.");
        due("20 to 240", 240, fed(220).feed(-1, -1, -1, -1, -1));
        due("20 to 241", NONE, fed(221).feed(-1, -1, -1, -1, -1));
        due("19 to 240", 240, fed(221).feed(-1, -1, -1, -1, 0x00ffffff));
        due("1 to 240", 240, fed(239).feed(0, 0, 0, 0, 1));
        due("2 to 241", NONE, fed(239).feed(1, 0, 0, 0, 1));
        due("0 to 240", 240, fed(240).feed(0, 0, 0, 0, 0));
        CrossedFavours y = fed(240);
        due("1 to 241", NONE, y.feed(0, 0, 0, 0, 1));
        due("nothing came", 240, y.count(4));
        TOLD.says("The TAPE has its first n bytes alone. False: n.");
        due("end 241 of 240", false, y.end(241));
        due("end -1", false, y.end(-1));
        due("end far below", false, y.end(Integer.MIN_VALUE));
        due("end far above", false, y.end(Integer.MAX_VALUE));
        due("none of these cut it", 240, y.count(4));
        due("end 240 of 240", true, y.end(240));
        due("end 1", true, y.end(1));
        due("it has one", 1, y.count(4));
        due("end 2 of 1", false, y.end(2));
        due("end 0", true, y.end(0));
        due("end 0 of none", true, y.end(0));
        due("end 1 of none", false, y.end(1));
        due("room again", 20, y.feed(-1, -1, -1, -1, -1));
    }

    private static void faultAndText() {
        TOLD.says("NONE: none. -2: no such sort.");
        CrossedFavours x = new CrossedFavours();
        Told.tape(x, "p;p");
        due("none", NONE, x.fault(VILLAGE));
        due("of a law", 0, x.fault(LAW));
        due("of a song", 0, x.fault(SONG));
        due("sort -1", -2, x.fault(-1));
        due("sort 3", -2, x.fault(3));
        due("sort far out", -2, x.fault(Integer.MIN_VALUE));
        TOLD.says("NONE: a FAULT, no such sort, there are four.");
        due("sort -1", NONE, x.text(-1));
        due("sort 3", NONE, x.text(3));
        due("a fault as a law", NONE, x.text(LAW));
        due("a fault as a song", NONE, x.text(SONG));
        due("the tape stays", 3, x.count(4));
        due("no village came of it", 0, x.count(0));
        due("a village", 2, x.text(VILLAGE));
        due("the tape is empty then", 0, x.count(4));
        due("a fault of the empty tape", NONE, x.text(VILLAGE));
        due("the village stays", 2, x.count(0));
        for (int i = 0; i < 4; i++) {
            Told.text(x, LAW, "y:" + i);
            Told.text(x, SONG, "" + i);
        }
        due("a fifth law", NONE, Told.text(x, LAW, "y:9"));
        due("its tape stays", 3, x.count(4));
        due("a fifth song", NONE, Told.text(x, SONG, "9"));
        due("its tape stays", 1, x.count(4));
        due("four laws", 4, x.count(2));
        due("four songs", 4, x.count(3));
        due("the fourth song is as it was", 3, x.sung(3, 0));
        x.law(3);
        due("the fourth law is as it was", 3, Told.house(x, 0, 6));
        due("villages are never too many", 3, Told.text(x, VILLAGE, "p;p;p"));
        readAnew();
    }

    /** A reading knows nothing of those ahead of it on the same object. */
    private static void readAnew() {
        CrossedFavours x = new CrossedFavours();
        String most = "sc7m9;p;p;p;p;p;pk1" + times(";f;fa1b0", 6);
        for (int i = 0; i < 3; i++) {
            Told.tape(x, most);
            due("a village with all there may be, once more", NONE, x.fault(VILLAGE));
            due("a village with all there may be, once more", 6, x.text(VILLAGE));
            due("nothing is owed", 0, x.all(5));
            Told.tape(x, "p;p;fa1b1");
            due("a house that owes itself", 9, x.fault(VILLAGE));
            Told.tape(x, "p;p;fa5b4n9");
            due("houses that are not there", 11, x.fault(VILLAGE));
            due("the smallest behind these", 2, Told.text(x, VILLAGE, "p;p"));
            due("coins as without", 20, x.count(7));
            due("many as without", 20, x.count(1));
            due("nobody kept", 0, x.all(10));
            due("nothing owed", 0, x.all(5));
            due("a law", NONE, lawFault(x, "y:i=1?[[[[[[1]]]]]]"));
            due("no law", 3, lawFault(x, "y:1x"));
            due("another law", NONE, lawFault(x, "y:!!!!!!i=1?1;y:2"));
            Told.tape(x, "0");
            due("a song", NONE, x.fault(SONG));
            x.end(0);
            due("nothing of it is left", 0, x.fault(SONG));
            due("nothing of it is left", NONE, x.text(SONG));
        }
    }

    private static int lawFault(CrossedFavours x, String text) {
        Told.tape(x, text);
        return x.fault(LAW);
    }

    private static void villageInstead() {
        TOLD.says("(no CROSSINGS; all that was of another one, SEEN, too, is gone but LAWS, which holds, SONGS, GRACE, STATUS)");
        CrossedFavours x = Told.singing("sc9m8;p;p;pt5k1;p;f;fa1b2n3", "01", "1");
        Told.text(x, LAW, "y:2");
        Told.text(x, LAW, "y:3");
        x.law(1);
        x.grace(6);
        x.cross(0);
        x.seen(0, 1, 1, 9, true);
        x.image();
        x.cross(2);
        x.gives(0, 0, 1);
        due("nothing fits by then", 0, x.fits());
        due("another village", 3, Told.text(x, VILLAGE, "p;p;p"));
        int[] counts = {3, 20, 2, 2, 0, 1, 0, 20, 6, 0, 0, 0};
        for (int what = 0; what < counts.length; what++) {
            due("count " + what, counts[what], x.count(what));
        }
        due("cost by the law that holds", 3, Told.house(x, 0, 6));
        due("songs", 1, x.sung(0, 1));
        due("status of the kept one", 1, x.status(2));
        due("status of those alike", 1, x.status(1));
        due("no favours", 0, x.all(5));
        due("nobody kept", 0, x.all(10));
        due("temper", 2, Told.house(x, 2, 1));
        due("worth", 1, Told.house(x, 0, 0));
        due("how often", 0, Told.house(x, 0, 3));
        due("no fourth house", Told.THROWN, Told.house(x, 3, 0));
        due("nothing seen, so all fits", 3, x.fits());
        due("no log", NONE, x.log(0, 0));
        due("nothing to undo", NONE, x.undo());
        due("no image", NONE, x.back());
        due("from this one as told", 1, x.ask(0, 1));
    }
}
