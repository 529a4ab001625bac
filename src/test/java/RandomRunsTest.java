import java.util.NoSuchElementException;
import java.util.Random;

/** Runs of up to 512 calls by chance, ordinary and wrong ones mixed, each answer held against the Oracle's. */
public final class RandomRunsTest {
    private static final Told TOLD = new Told("random runs");
    private final Random random;
    private final CrossedFavours x = new CrossedFavours();
    private final Oracle o = new Oracle();
    private final int run;
    private int calls = 0;

    private RandomRunsTest(int run) {
        this.run = run;
        this.random = new Random(run * 7919L + 13);
    }

    public static void main(String[] args) {
        int runs = args.length > 0 ? Integer.parseInt(args[0]) : 400;
        for (int run = 0; run < runs; run++) {
            new RandomRunsTest(run).go();
        }
        for (int run = 0; run < runs / 2; run++) {
            new RandomRunsTest(-1 - run).search();
        }
        TOLD.close();
    }

    private int r(int n) {
        return random.nextInt(n);
    }

    private int house() {
        int n = Math.max(1, o.houses);
        return r(30) == 0 ? r(12) - 3 : r(n);
    }

    private int song() {
        return r(25) == 0 ? r(8) - 2 : r(Math.max(1, o.songs.size()));
    }

    private int near(int low, int high) {
        return r(15) == 0 ? (r(2) == 0 ? low - 1 - r(3) : high + 1 + r(3)) : low + r(high - low + 1);
    }

    private void due(String call, long want, long got) {
        calls++;
        TOLD.due("run " + run + ", call " + calls + ": " + call, want, got);
    }

    private void due(String call, boolean want, boolean got) {
        due(call, want ? 1 : 0, got ? 1 : 0);
    }

    private void go() {
        boolean late = r(8) == 0;
        if (!late) {
            putTexts();
        }
        while (calls < 500) {
            int kind = r(100);
            if (kind < 45) {
                act();
            } else if (kind < 93) {
                look();
            } else {
                putOne();
            }
            if (r(10) == 0) {
                due("count", o.count(calls % 12), x.count(calls % 12));
            }
        }
    }

    /** All searches over rows of crossings, every second time in a village whose house 0 may come to be BARE. */
    private void search() {
        put(0, run % 2 == 0 ? Texts.SOON_BARE.replace("m40", "m" + (7 + r(93))) + (r(2) == 0 ? ";p" : ";fa2b1") : Texts.village(random));
        if (r(3) == 0) {
            int h = 1 + r(3);
            due("cross " + h, o.cross(h), x.cross(h));
        }
        int most = 3 + r(2);
        for (int n = 0; n <= most; n++) {
            due("reach " + n, o.reach(n), x.reach(n));
            due("fewest " + n + ",0", o.fewest(n, 0), x.fewest(n, 0));
            due("fewest " + n + ",1", o.fewest(n, 1), x.fewest(n, 1));
        }
        due("straight 0", o.straight(0), x.straight(0));
        due("straight 1", o.straight(1), x.straight(1));
    }

    // ---- texts

    private void feed(String text) {
        due("end 0", o.end(0), x.end(0));
        for (int i = 0; i < text.length(); i += 20) {
            int a = Told.word(text, i);
            int b = Told.word(text, i + 4);
            int c = Told.word(text, i + 8);
            int d = Told.word(text, i + 12);
            int e = Told.word(text, i + 16);
            due("feed of " + text, o.feed(a, b, c, d, e), x.feed(a, b, c, d, e));
        }
    }

    private void put(int sort, String text) {
        feed(text);
        due("fault " + sort + " of " + text, o.fault(sort), x.fault(sort));
        due("text " + sort + " of " + text, o.text(sort), x.text(sort));
        if (r(4) == 0) {
            due("count 4", o.count(4), x.count(4));
        }
    }

    private void putTexts() {
        put(0, Texts.village(random));
        for (int i = r(4); i > 0; i--) {
            put(2, Texts.song(random, o.houses));
        }
        for (int i = r(3); i > 0; i--) {
            put(1, Texts.law(random));
        }
    }

    private void putOne() {
        int kind = r(12);
        if (kind < 4) {
            put(2, Texts.song(random, o.houses));
        } else if (kind < 7) {
            put(1, Texts.law(random));
        } else if (kind < 8) {
            put(0, Texts.village(random));
        } else if (kind < 10) {
            put(r(4), Texts.spoilt(random, r(2) == 0 ? Texts.village(random) : Texts.law(random)));
        } else {
            int a = random.nextInt() & random.nextInt();
            due("feed " + a, o.feed(a, a, 0, 1, -1), x.feed(a, a, 0, 1, -1));
            int n = near(0, o.tape.length());
            due("end " + n, o.end(n), x.end(n));
        }
    }

    // ---- calls

    private void act() {
        switch (r(12)) {
            case 0, 1, 2, 3 -> {
                int h = house();
                due("cross " + h, o.cross(h), x.cross(h));
            }
            case 4 -> {
                int s = song();
                due("sing " + s, o.sing(s), x.sing(s));
            }
            case 5 -> {
                int a = house();
                int b = house();
                int n = near(1, 9);
                due("gives " + a + "," + b + "," + n, o.gives(a, b, n), x.gives(a, b, n));
            }
            case 6 -> {
                int a = house();
                int b = house();
                due("forgives " + a + "," + b, o.forgives(a, b), x.forgives(a, b));
            }
            case 7 -> {
                int h = r(3) == 0 ? house() : 50;
                due("keep " + h, o.keep(h), x.keep(h));
            }
            case 8 -> {
                int n = near(1, 50);
                due("give " + n, o.give(n), x.give(n));
            }
            case 9 -> {
                int n = r(3) == 0 ? near(1, 30) : 1 + r(4);
                long seed = random.nextLong();
                due("years " + n + "," + seed, o.years(n, seed), x.years(n, seed));
            }
            case 10 -> {
                for (int i = r(5) == 0 ? 45 : r(5); i > 0; i--) {
                    due("undo", o.undo(), x.undo());
                }
            }
            default -> rarerAct();
        }
    }

    private void rarerAct() {
        switch (r(4)) {
            case 0 -> due("image", o.image(), x.image());
            case 1 -> due("back", o.back(), x.back());
            case 2 -> {
                int v = near(0, 9);
                due("grace " + v, o.grace(v), x.grace(v));
            }
            default -> {
                int law = near(-1, Math.max(0, o.laws.size() - 1));
                due("law " + law, o.law(law), x.law(law));
            }
        }
    }

    private void look() {
        int a = house();
        int b = house();
        int s = song();
        switch (r(22)) {
            case 0, 1, 2 -> lookAtHouse(a, near(0, 6));
            case 3 -> due("owes " + a + "," + b, o.owes(a, b), x.owes(a, b));
            case 4 -> {
                int i = near(-1, 16);
                due("sung " + s + "," + i, o.sung(s, i), x.sung(s, i));
            }
            case 5 -> {
                int what = near(0, 5);
                due("status " + what, o.status(what), x.status(what));
            }
            case 6, 7 -> {
                int i = near(0, 59);
                i = r(2) == 0 ? i : r(5);
                int what = near(0, 2);
                due("log " + i + "," + what, o.log(i, what), x.log(i, what));
            }
            case 8 -> {
                int n = r(3) == 0 ? near(0, 60) : r(6);
                due("after " + s + "," + n + "," + a + "," + b, o.after(s, n, a, b), x.after(s, n, a, b));
            }
            case 9 -> {
                int n = r(3) == 0 ? near(0, 60) : r(6);
                due("worthAfter " + s + "," + n + "," + a, o.worthAfter(s, n, a), x.worthAfter(s, n, a));
            }
            case 10 -> {
                int what = near(0, 1);
                due("again " + s + "," + what, o.again(s, what), x.again(s, what));
            }
            case 11 -> due("like " + s, o.like(s), x.like(s));
            case 12 -> lookAround();
            case 13 -> due("ring", o.ring(), x.ring());
            case 14 -> due("chain " + a + "," + b, o.chain(a, b), x.chain(a, b));
            case 15 -> lookBack(a, b);
            case 16 -> due("fits", o.fits(), x.fits());
            case 17 -> due("ask " + a + "," + b, o.ask(a, b), x.ask(a, b));
            case 18 -> lookAtGame(a, b);
            case 19 -> {
                int chance = near(0, 100);
                due("odds " + s + "," + chance, o.odds(s, chance), x.odds(s, chance));
            }
            case 20 -> {
                int c = near(0, 999);
                due("shares " + a + "," + c, o.shares(a, c), x.shares(a, c));
            }
            default -> {
                int what = near(0, 13);
                due("all " + what, o.all(what), x.all(what));
            }
        }
    }

    private void lookAtHouse(int house, int what) {
        long want;
        try {
            want = o.house(house, what);
        } catch (NoSuchElementException e) {
            want = Long.MIN_VALUE;
        }
        due("house " + house + "," + what, want, Told.house(x, house, what));
    }

    private void lookAround() {
        int n = r(4) == 0 ? near(0, 4) : r(3);
        int what = near(0, 1);
        switch (r(8)) {
            case 0, 1, 2 -> due("reach " + n, o.reach(n), x.reach(n));
            case 3 -> due("straight " + what, o.straight(what), x.straight(what));
            default -> due("fewest " + n + "," + what, o.fewest(n, what), x.fewest(n, what));
        }
    }

    private void lookBack(int a, int b) {
        int n = near(1, 9);
        n = r(2) == 0 ? n : 1 + r(2);
        int v = r(4) == 0 ? near(-99, 99) : r(7) - 3;
        if (r(2) == 0 && o.isSong(0) && o.is(a, b) && n >= 1 && n <= 9) {
            Oracle.State t = o.behind(o.told, r(o.songs.size()), n);
            v = t == null ? v : t.b[a][b];
        }
        boolean is = r(2) == 0;
        due("seen " + a + "," + b + "," + n + "," + v + "," + is, o.seen(a, b, n, v, is), x.seen(a, b, n, v, is));
    }

    private void lookAtGame(int a, int b) {
        int first = near(0, 1);
        int second = near(0, 1);
        int what = near(0, 1);
        due("game " + a + "," + b + "," + first + "," + second + "," + what,
            o.game(a, b, first, second, what), x.game(a, b, first, second, what));
        int i = near(-1, 3);
        due("rests " + a + "," + b + "," + i, o.rests(a, b, i), x.rests(a, b, i));
    }
}
