import java.util.NoSuchElementException;

/**
 * Houses that owe one another favours, and what crossing them leads to.
 * The document's words in capitals (HOUSE, OWES, CROSSED ..) are used in the comments as it uses them.
 */
public final class CrossedFavours {
    public static final int NONE = -1;
    public static final int HIDDEN = -1000000;

    private static final int MOST_HOUSES = 6;
    private static final int TAPE_BYTES = 240;
    private static final int MOST_TEXTS = 4;
    private static final int SONG_DIGITS = 16;
    private static final int MOST_CROSSINGS = 9999;
    private static final int MOST_COINS = 999;
    private static final int LOG_LENGTH = 60;
    private static final int MOST_UNDONE = 40;
    private static final int MOST_TIMES = 60;
    private static final int MOST_STEPS = 4;
    private static final int MOST_SEEN = 10;
    private static final int SEEN_TIMES = 9;
    private static final int SLIP_DIGITS = 8;
    private static final int REASONS = 6;
    private static final int NO_SUCH_SORT = -2;

    private static final int NO_SUCH = 0;
    private static final int OUT_OF_BOUNDS = 1;
    private static final int KEPT_OR_NONE = 2;
    private static final int BARE_OR_FULL = 3;
    private static final int TOO_FEW_COINS = 4;
    private static final int BEYOND_THE_LAST = 5;

    private final int[] tape = new int[TAPE_BYTES];
    private final VillageReader villageReader = new VillageReader();
    private final LawReader lawReader = new LawReader();
    private final SongReader songReader = new SongReader();
    private final Shelf laws = new Shelf(TAPE_BYTES);
    private final Shelf songs = new Shelf(SONG_DIGITS);
    private final Board now = new Board();
    private final Board told = new Board();
    private final Board apart = new Board();
    private final Chronicle chronicle = new Chronicle();
    private final Memory memory = new Memory();
    private final Sightings sightings = new Sightings();
    private final Walk walk = new Walk();
    private final Slips slips = new Slips();
    private final int[] refused = new int[REASONS];
    private final int[] order = new int[MOST_HOUSES];
    private int tapeSize = 0;
    private int lawThatHolds = NONE;
    private int mercy = 2;

    public CrossedFavours() {
    }

    // ---- texts

    public int feed(int a, int b, int c, int d, int e) {
        int more = bytesIn(a) + bytesIn(b) + bytesIn(c) + bytesIn(d) + bytesIn(e);
        if (tapeSize + more > TAPE_BYTES) {
            return NONE;
        }
        append(a);
        append(b);
        append(c);
        append(d);
        append(e);
        return tapeSize;
    }

    private static int bytesIn(int number) {
        int found = 0;
        for (int shift = 24; shift >= 0; shift -= 8) {
            if ((number >>> shift & 255) != 0) {
                found++;
            }
        }
        return found;
    }

    private void append(int number) {
        for (int shift = 24; shift >= 0; shift -= 8) {
            int next = number >>> shift & 255;
            if (next != 0 && tapeSize < TAPE_BYTES) {
                tape[tapeSize] = next;
                tapeSize++;
            }
        }
    }

    public boolean end(int n) {
        if (n < 0 || n > tapeSize) {
            return false;
        }
        tapeSize = n;
        return true;
    }

    public int fault(int sort) {
        switch (sort) {
            case 0:
                return villageReader.read(tape, tapeSize);
            case 1:
                return lawReader.read(tape, tapeSize);
            case 2:
                return songReader.read(tape, tapeSize);
            default:
                return NO_SUCH_SORT;
        }
    }

    public int text(int sort) {
        if (fault(sort) != NONE) {
            return NONE;
        }
        int answer;
        switch (sort) {
            case 0:
                answer = settle();
                break;
            case 1:
                answer = laws.put(tape, tapeSize);
                break;
            default:
                answer = songs.put(songReader.digits, songReader.count);
                break;
        }
        if (answer != NONE) {
            tapeSize = 0;
        }
        return answer;
    }

    /** The VILLAGE that was read last takes the place of the one there was. */
    private int settle() {
        told.become(villageReader.board);
        now.become(told);
        memory.forgetActs();
        memory.imageStands = false;
        sightings.count = 0;
        return now.houses;
    }

    // ---- what stands

    public int house(int house, int what) throws NoSuchElementException {
        if (!now.has(house)) {
            throw new NoSuchElementException("no such house");
        }
        switch (what) {
            case 0:
                return now.worths[house];
            case 1:
                return now.tempers[house];
            case 2:
                return now.isKept(house) ? 1 : 0;
            case 3:
                return now.turns[house];
            case 4:
                return now.incoming(house);
            case 5:
                return now.outgoing(house);
            case 6:
                return costOf(house);
            default:
                throw new NoSuchElementException("no such what");
        }
    }

    /** COST of a HOUSE as now; of one that is not there: 0. */
    private int costOf(int house) {
        if (!now.has(house)) {
            return 0;
        }
        if (lawThatHolds < 0 || lawThatHolds >= laws.count) {
            return 1;
        }
        lawReader.letters[0] = now.incoming(house);
        lawReader.letters[1] = now.outgoing(house);
        lawReader.letters[2] = now.tempers[house];
        lawReader.letters[3] = now.turns[house] % 100;
        lawReader.letters[4] = now.worths[house] % 100;
        lawReader.letters[5] = now.crossings % 100;
        lawReader.read(laws.rows[lawThatHolds], laws.lengths[lawThatHolds]);
        return Math.max(0, Math.min(9, lawReader.worth));
    }

    public int owes(int one, int other) {
        return now.has(one) && now.has(other) ? now.debt(one, other) : HIDDEN;
    }

    public boolean law(int law) {
        if (law != NONE && !laws.has(law)) {
            return false;
        }
        lawThatHolds = law;
        return true;
    }

    public int sung(int song, int i) {
        if (!songs.has(song)) {
            return NONE;
        }
        if (i == NONE) {
            return songs.lengths[song];
        }
        return i >= 0 && i < songs.lengths[song] ? songs.rows[song][i] : NONE;
    }

    public boolean grace(int v) {
        if (v < 0 || v > 9 || v == mercy) {
            return false;
        }
        mercy = v;
        return true;
    }

    // ---- acts

    private int refuse(int reason, int answer) {
        if (reason >= 0 && reason < REASONS) {
            refused[reason]++;
        }
        return answer;
    }

    public int cross(int house) {
        int cost = costOf(house);
        int hurdle = hurdleOf(house, cost);
        if (hurdle != NONE) {
            return refuse(hurdle, NONE);
        }
        crossFor(house, cost);
        return now.worths[house];
    }

    /** The STATUS for which a HOUSE can't be CROSSED by hand; NONE: it can be. */
    private int hurdleOf(int house, int cost) {
        if (!now.has(house)) {
            return NO_SUCH;
        }
        if (now.isKept(house)) {
            return KEPT_OR_NONE;
        }
        if (!now.canTurn(house)) {
            return BARE_OR_FULL;
        }
        if (now.coins < cost) {
            return TOO_FEW_COINS;
        }
        return now.crossings >= MOST_CROSSINGS ? BEYOND_THE_LAST : NONE;
    }

    private void crossFor(int house, int cost) {
        memory.remember(now);
        now.coins -= cost;
        crossAndLog(house);
    }

    private void crossAndLog(int house) {
        now.turnOver(house);
        now.turns[house]++;
        now.crossings++;
        chronicle.write(now.crossings, house, now.favours(), now.levels() == NONE);
    }

    public int sing(int song) {
        if (!songs.has(song) || now.houses == 0) {
            return refuse(NO_SUCH, NONE);
        }
        int crossed = 0;
        for (int i = 0; i < songs.lengths[song]; i++) {
            int house = songs.rows[song][i];
            int cost = costOf(house);
            if (hurdleOf(house, cost) != NONE) {
                break;
            }
            crossFor(house, cost);
            crossed++;
        }
        return crossed;
    }

    public int gives(int one, int other, int n) {
        if (!now.has(one) || !now.has(other)) {
            return refuse(NO_SUCH, HIDDEN);
        }
        if (one == other || n < 1 || n > 9) {
            return refuse(OUT_OF_BOUNDS, HIDDEN);
        }
        int then = now.debt(one, other) + n;
        if (then > now.limit) {
            return refuse(BARE_OR_FULL, HIDDEN);
        }
        memory.remember(now);
        now.setDebt(one, other, then);
        return then;
    }

    public int forgives(int one, int other) {
        if (!now.has(one) || !now.has(other)) {
            return refuse(NO_SUCH, HIDDEN);
        }
        if (one == other) {
            return refuse(OUT_OF_BOUNDS, HIDDEN);
        }
        int owed = now.debt(one, other);
        if (owed == 0) {
            return refuse(KEPT_OR_NONE, HIDDEN);
        }
        memory.remember(now);
        now.setDebt(one, other, 0);
        return owed;
    }

    public int keep(int house) {
        if (!now.has(house)) {
            return refuse(NO_SUCH, NONE);
        }
        memory.remember(now);
        now.kept ^= 1 << house;
        return now.isKept(house) ? 1 : 0;
    }

    public int give(int n) {
        if (now.houses == 0) {
            return refuse(NO_SUCH, NONE);
        }
        if (n < 1 || n > 50) {
            return refuse(OUT_OF_BOUNDS, NONE);
        }
        if (now.coins + n > MOST_COINS) {
            return refuse(BARE_OR_FULL, NONE);
        }
        memory.remember(now);
        now.coins += n;
        return now.coins;
    }

    public int years(int n, long seed) {
        if (now.houses == 0 || n < 1 || n > 30 || now.crossings + n > MOST_CROSSINGS) {
            return NONE;
        }
        long x = seed;
        for (int year = 0; year < n; year++) {
            x = pass(x);
        }
        return now.crossings;
    }

    /** One of the YEARS, which is one ACT whatever comes of it: x behind its draws. */
    private long pass(long ahead) {
        memory.remember(now);
        long x = stir(ahead);
        int house = drawn(x, now.houses);
        if (now.canTurn(house)) {
            crossAndLog(house);
        }
        x = stir(x);
        if (drawn(x, 10) < mercy) {
            x = stir(x);
            int one = drawn(x, now.houses);
            x = stir(x);
            int other = drawn(x, now.houses);
            now.setDebt(one, other, 0);
        }
        return x;
    }

    private static long stir(long x) {
        return x * 6364136223846793005L + 1442695040888963407L;
    }

    private static int drawn(long x, int j) {
        return j > 0 ? (int) ((x >>> 33) % j) : 0;
    }

    public int status(int what) {
        return what >= 0 && what < REASONS ? refused[what] : NONE;
    }

    public int undo() {
        return memory.recall(now) ? memory.size : NONE;
    }

    public int log(int i, int what) {
        if (i < 0 || i >= logLength()) {
            return NONE;
        }
        return chronicle.told(now.crossings - i, what);
    }

    /** Every CROSSING is in the LOG, so its length needs no count of its own. */
    private int logLength() {
        return Math.min(now.crossings, LOG_LENGTH);
    }

    // ---- apart, from as it is now

    public int after(int song, int n, int one, int other) {
        if (!now.has(one) || !now.has(other) || !sungApart(song, n)) {
            return HIDDEN;
        }
        return apart.debt(one, other);
    }

    public int worthAfter(int song, int n, int house) {
        if (!now.has(house) || !sungApart(song, n)) {
            return HIDDEN;
        }
        return apart.worths[house];
    }

    /** Whether a SONG can be n times from as it is now; then it stands apart as behind it. */
    private boolean sungApart(int song, int n) {
        if (!songs.has(song) || n < 0 || n > MOST_TIMES) {
            return false;
        }
        apart.become(now);
        for (int time = 0; time < n; time++) {
            if (!apart.follow(songs.rows[song], songs.lengths[song])) {
                return false;
            }
        }
        return true;
    }

    public int again(int song, int what) {
        if (!songs.has(song) || now.houses == 0 || what < 0 || what > 1) {
            return NONE;
        }
        apart.become(now);
        for (int time = 1; time <= MOST_TIMES; time++) {
            if (!apart.follow(songs.rows[song], songs.lengths[song])) {
                return NONE;
            }
            if (apart.hasDebtsOf(now) && (what == 0 || apart.hasWorthsOf(now))) {
                return time;
            }
        }
        return NONE;
    }

    public int like(int song) {
        if (now.houses == 0 || !sungApart(song, 1)) {
            return NONE;
        }
        return canPlace(0, 0) ? 1 : 0;
    }

    /** Whether the HOUSES from this one on find places in the order, those of the bits being taken. */
    private boolean canPlace(int house, int taken) {
        if (house < 0 || house >= now.houses) {
            return true;
        }
        for (int place = 0; place < now.houses; place++) {
            if ((taken >> place & 1) == 0 && placeFits(house, place)) {
                order[house] = place;
                if (canPlace(house + 1, taken | 1 << place)) {
                    return true;
                }
            }
        }
        return false;
    }

    private boolean placeFits(int house, int place) {
        for (int earlier = 0; earlier < house; earlier++) {
            if (apart.debt(place, order[earlier]) != now.debt(house, earlier)) {
                return false;
            }
        }
        return true;
    }

    public int reach(int n) {
        if (now.houses == 0 || n < 0 || n > MOST_STEPS) {
            return NONE;
        }
        walk.search(now, n, Walk.TABLES);
        return walk.tables;
    }

    public int straight(int what) {
        if (now.houses == 0 || what < 0 || what > 1) {
            return NONE;
        }
        walk.search(now, MOST_STEPS, Walk.RINGS);
        if (walk.least != 0) {
            return NONE;
        }
        return what == 0 ? walk.steps : walk.row;
    }

    public int fewest(int n, int what) {
        if (now.houses == 0 || n < 0 || n > MOST_STEPS || what < 0 || what > 1) {
            return NONE;
        }
        walk.search(now, n, Walk.FAVOURS);
        return what == 0 ? walk.least : walk.row;
    }

    public int ring() {
        int best = NONE;
        for (int house = 0; house < now.houses; house++) {
            int steps = now.steps(house, house);
            if (steps != NONE && (best == NONE || steps < best)) {
                best = steps;
            }
        }
        return best;
    }

    public int chain(int from, int to) {
        if (!now.has(from) || !now.has(to)) {
            return NONE;
        }
        return from == to ? 0 : now.steps(from, to);
    }

    // ---- what was seen: from as the VILLAGE was told

    public int seen(int one, int other, int n, int v, boolean is) {
        if (!now.has(one) || !now.has(other) || one == other) {
            return NONE;
        }
        if (n < 1 || n > SEEN_TIMES || v < -99 || v > 99 || sightings.count >= MOST_SEEN) {
            return NONE;
        }
        sightings.put(one, other, n, v, is);
        return sightings.count;
    }

    public int fits() {
        if (now.houses == 0) {
            return NONE;
        }
        int bits = 0;
        for (int song = 0; song < songs.count; song++) {
            if (agrees(song)) {
                bits |= 1 << song;
            }
        }
        return bits;
    }

    private boolean agrees(int song) {
        apart.become(told);
        boolean can = true;
        for (int time = 1; time <= SEEN_TIMES; time++) {
            can = can && apart.follow(songs.rows[song], songs.lengths[song]);
            if (!sightings.agree(time, can, apart)) {
                return false;
            }
        }
        return true;
    }

    public int ask(int one, int other) {
        if (!now.has(one) || !now.has(other) || one == other) {
            return NONE;
        }
        int fitting = fits();
        if (fitting <= 0) {
            return NONE;
        }
        for (int song = 0; song < songs.count; song++) {
            foretell(song, one, other);
        }
        int best = NONE;
        int fewestAlike = MOST_TEXTS + 1;
        for (int time = 1; time <= SEEN_TIMES; time++) {
            int alike = sightings.mostAlike(fitting, time);
            if (alike < fewestAlike) {
                fewestAlike = alike;
                best = time;
            }
        }
        return best;
    }

    private void foretell(int song, int one, int other) {
        apart.become(told);
        boolean can = true;
        for (int time = 1; time <= SEEN_TIMES; time++) {
            can = can && apart.follow(songs.rows[song], songs.lengths[song]);
            sightings.foretold[song][time] = can ? apart.debt(one, other) : HIDDEN;
        }
    }

    // ---- games, odds, shares

    public int game(int one, int other, int x, int y, int what) {
        if (!now.has(one) || !now.has(other) || one == other) {
            return HIDDEN;
        }
        if (x < 0 || x > 1 || y < 0 || y > 1 || what < 0 || what > 1) {
            return HIDDEN;
        }
        apart.become(now);
        if (x == 1 && apart.canTurn(one)) {
            apart.turnOver(one);
        }
        if (y == 1 && apart.canTurn(other)) {
            apart.turnOver(other);
        }
        int house = what == 0 ? one : other;
        int chosen = what == 0 ? x : y;
        return apart.incoming(house) - apart.outgoing(house) - chosen;
    }

    public int rests(int one, int other, int i) {
        if (!now.has(one) || !now.has(other) || one == other) {
            return NONE;
        }
        int found = 0;
        for (int choices = 0; choices < 4; choices++) {
            int x = choices / 2;
            int y = choices % 2;
            if (isRest(one, other, x, y)) {
                if (found == i) {
                    return 10 * x + y;
                }
                found++;
            }
        }
        return i == NONE ? found : NONE;
    }

    private boolean isRest(int one, int other, int x, int y) {
        return game(one, other, x, y, 0) >= game(one, other, 1 - x, y, 0)
            && game(one, other, x, y, 1) >= game(one, other, x, 1 - y, 1);
    }

    public int odds(int song, int chance) {
        if (!songs.has(song) || now.houses == 0 || chance < 0 || chance > 100) {
            return NONE;
        }
        if (songs.lengths[song] > SLIP_DIGITS) {
            return NONE;
        }
        return slips.quietParts(now, songs.rows[song], songs.lengths[song], chance);
    }

    public int shares(int house, int c) {
        if (!now.has(house) || c < 0 || c > 999) {
            return NONE;
        }
        int whole = now.favours();
        return whole > 0 ? c * now.incoming(house) / whole : 0;
    }

    public int all(int what) {
        if (now.houses == 0) {
            return HIDDEN;
        }
        if (what >= 0 && what <= 4) {
            return houseWithMost(what);
        }
        if (what >= 7 && what <= 11) {
            return housesThatAre(what);
        }
        switch (what) {
            case 5:
                return now.favours();
            case 6:
                return now.pairs();
            case 12:
                return now.levels();
            case 13:
                return now.mostBetweenTwo();
            default:
                return HIDDEN;
        }
    }

    private int houseWithMost(int what) {
        int best = 0;
        for (int house = 1; house < now.houses; house++) {
            if (amountOf(house, what) > amountOf(best, what)) {
                best = house;
            }
        }
        return best;
    }

    private int amountOf(int house, int what) {
        switch (what) {
            case 0:
                return now.incoming(house);
            case 1:
                return now.outgoing(house);
            case 2:
                return now.worths[house];
            case 3:
                return now.turns[house];
            default:
                return now.tempers[house];
        }
    }

    private int housesThatAre(int what) {
        int bits = 0;
        for (int house = 0; house < now.houses; house++) {
            if (isSuch(house, what)) {
                bits |= 1 << house;
            }
        }
        return bits;
    }

    private boolean isSuch(int house, int what) {
        boolean comes = now.incoming(house) > 0;
        boolean goes = now.outgoing(house) > 0;
        switch (what) {
            case 7:
                return goes && !comes;
            case 8:
                return comes && !goes;
            case 9:
                return !comes && !goes;
            case 10:
                return now.isKept(house);
            default:
                return now.canTurn(house);
        }
    }

    // ---- images and counts

    public int image() {
        if (now.houses == 0) {
            return NONE;
        }
        memory.takeImage(now, chronicle);
        return now.crossings;
    }

    public int back() {
        return memory.bringBack(now, chronicle) ? now.crossings : NONE;
    }

    public int count(int what) {
        switch (what) {
            case 0:
                return now.houses;
            case 1:
                return now.limit;
            case 2:
                return laws.count;
            case 3:
                return songs.count;
            case 4:
                return tapeSize;
            case 5:
                return lawThatHolds;
            case 6:
                return now.crossings;
            case 7:
                return now.coins;
            case 8:
                return mercy;
            case 9:
                return sightings.count;
            case 10:
                return logLength();
            case 11:
                return memory.size;
            default:
                return HIDDEN;
        }
    }

    /** Four rows at most: the LAWS' bytes, or the SONGS' digits. */
    private static final class Shelf {
        final int[][] rows;
        final int[] lengths = new int[MOST_TEXTS];
        final int width;
        int count = 0;

        Shelf(int width) {
            this.width = width;
            this.rows = new int[MOST_TEXTS][width];
        }

        boolean has(int number) {
            return number >= 0 && number < count;
        }

        int put(int[] row, int length) {
            if (count >= MOST_TEXTS || length < 0 || length > width || length > row.length) {
                return NONE;
            }
            System.arraycopy(row, 0, rows[count], 0, length);
            lengths[count] = length;
            count++;
            return count - 1;
        }
    }

    /** Where a reading of bytes stands; once it is broken it moves no more, so that at is the FAULT. */
    private static class Reader {
        static final int END = -1;
        static final int BLANK = 32;

        int[] text = new int[0];
        int length = 0;
        int at = 0;
        boolean broken = false;

        final void start(int[] bytes, int size) {
            text = bytes;
            length = Math.max(0, Math.min(size, bytes.length));
            at = 0;
            broken = false;
        }

        /** The next sign that is no blank, not yet taken. */
        final int peek() {
            if (broken) {
                return END;
            }
            while (at < length && text[at] == BLANK) {
                at++;
            }
            return at < length ? text[at] : END;
        }

        final boolean take(int sign) {
            if (peek() != sign) {
                return false;
            }
            at++;
            return true;
        }

        final void need(int sign) {
            if (peek() == sign) {
                at++;
            } else {
                broken = true;
            }
        }

        static boolean isDigit(int sign) {
            return sign >= '0' && sign <= '9';
        }

        final int number(int mostDigits) {
            if (!isDigit(peek())) {
                broken = true;
                return 0;
            }
            int value = 0;
            for (int n = 0; n < mostDigits && at < length && isDigit(text[at]); n++) {
                value = 10 * value + text[at] - '0';
                at++;
            }
            if (at < length && isDigit(text[at])) {
                broken = true;
            }
            return value;
        }

        final int wrongAt() {
            return broken ? at : NONE;
        }
    }

    /** Reads a SONG. */
    private static final class SongReader extends Reader {
        final int[] digits = new int[SONG_DIGITS];
        int count = 0;

        int read(int[] bytes, int size) {
            start(bytes, size);
            count = 0;
            for (int n = 0; n < SONG_DIGITS; n++) {
                int sign = peek();
                if (!isDigit(sign)) {
                    break;
                }
                digits[n] = sign - '0';
                at++;
                count++;
            }
            if (count == 0 || peek() != END) {
                broken = true;
            }
            return wrongAt();
        }
    }

    /** Reads a VILLAGE onto a board of its own. */
    private static final class VillageReader extends Reader {
        private static final String ITEMS = "cmwtkabn";
        private static final int[] LOWEST = {0, 1, 1, 0, 0, 0, 0, 1};
        private static final int[] HIGHEST = {99, 99, 9, 9, 1, 5, 5, 9};
        private static final int[] USUAL = {20, 20, 1, 2, 0, 0, 1, 1};
        private static final int OF_RULES = 0;
        private static final int OF_HOUSE = 2;
        private static final int OF_FAVOURS = 5;
        private static final int OF_NOTHING = 8;
        private static final int MOST_FAVOURS = 12;

        final Board board = new Board();
        final int[] values = new int[OF_NOTHING];
        boolean rulesTold = false;
        int favoursTold = 0;
        int highestNamed = NONE;
        boolean owesItself = false;

        int read(int[] bytes, int size) {
            start(bytes, size);
            forget();
            clause();
            for (int n = 0; n < TAPE_BYTES && take(';'); n++) {
                clause();
            }
            if (!canStand()) {
                broken = true;
            }
            return wrongAt();
        }

        private void forget() {
            board.clear();
            board.coins = USUAL[0];
            board.limit = USUAL[1];
            rulesTold = false;
            favoursTold = 0;
            highestNamed = NONE;
            owesItself = false;
        }

        private void clause() {
            int sign = peek();
            if (sign == 's' && !rulesTold) {
                items(OF_RULES, OF_HOUSE);
                tellRules();
            } else if (sign == 'p' && board.houses < MOST_HOUSES) {
                items(OF_HOUSE, OF_FAVOURS);
                tellHouse();
            } else if (sign == 'f' && favoursTold < MOST_FAVOURS) {
                items(OF_FAVOURS, OF_NOTHING);
                tellFavours();
            } else {
                broken = true;
            }
        }

        /** Takes the letter of a CLAUSE and its ITEMS: those of ITEMS from first up to end. */
        private void items(int first, int end) {
            at++;
            for (int item = first; item < end; item++) {
                values[item] = USUAL[item];
            }
            int given = 0;
            for (int n = first; n <= end; n++) {
                int sign = peek();
                if (sign == ';' || sign == END) {
                    return;
                }
                int item = itemOf(sign, first, end);
                if (item == NONE || (given >> item & 1) == 1) {
                    broken = true;
                    return;
                }
                given |= 1 << item;
                at++;
                values[item] = bounded(number(2), item);
            }
        }

        private static int itemOf(int sign, int first, int end) {
            for (int item = first; item < end && item < ITEMS.length(); item++) {
                if (ITEMS.charAt(item) == sign) {
                    return item;
                }
            }
            return NONE;
        }

        /** A number out of bounds is wrong at its last digit, which was taken just now. */
        private int bounded(int number, int item) {
            if (!broken && (number < LOWEST[item] || number > HIGHEST[item])) {
                at--;
                broken = true;
            }
            return broken ? USUAL[item] : number;
        }

        private void tellRules() {
            board.coins = values[OF_RULES];
            board.limit = values[OF_RULES + 1];
            rulesTold = true;
        }

        private void tellHouse() {
            int house = board.houses;
            board.worths[house] = values[OF_HOUSE];
            board.tempers[house] = values[OF_HOUSE + 1];
            board.kept |= values[OF_HOUSE + 2] << house;
            board.houses++;
        }

        private void tellFavours() {
            int one = values[OF_FAVOURS];
            int other = values[OF_FAVOURS + 1];
            favoursTold++;
            highestNamed = Math.max(highestNamed, Math.max(one, other));
            if (one == other) {
                owesItself = true;
            } else {
                board.setDebt(one, other, board.debt(one, other) + values[OF_FAVOURS + 2]);
            }
        }

        private boolean canStand() {
            return board.houses >= 2 && highestNamed < board.houses && !owesItself
                && board.mostBetweenTwo() <= board.limit;
        }
    }

    /**
     * Reads a LAW and tells its WORTH by the letters in one go: a LAW is short, and nothing need be kept.
     * What holds is 1, what does not is 0.
     */
    private static final class LawReader extends Reader {
        private static final String LETTERS = "iotnwd";
        private static final int BOUND = 1000000;
        private static final int DEEPEST = 6;

        // each of these is made of the next one, a UNIT and an ATOM being made otherwise
        private static final int CONDITION = 0;
        private static final int TRUTH = 1;
        private static final int UNIT = 2;
        private static final int SUM = 3;
        private static final int TERM = 4;
        private static final int ATOM = 5;
        // the two signs that may stand between the parts of each
        private static final String BETWEEN = "||&&  +-*/";

        final int[] letters = new int[LETTERS.length()];
        int worth = 0;
        boolean found = false;

        int read(int[] bytes, int size) {
            start(bytes, size);
            worth = 0;
            found = false;
            clause();
            for (int n = 0; n < TAPE_BYTES && take(';'); n++) {
                clause();
            }
            if (peek() != END) {
                broken = true;
            }
            return wrongAt();
        }

        private void clause() {
            need('y');
            need(':');
            int sign = peek();
            int holds = 1;
            int value = 0;
            boolean hasCondition = sign == '!' || sign == '(';
            if (hasCondition) {
                holds = part(CONDITION, 0);
            } else {
                value = part(SUM, 0);
                hasCondition = isComparison(peek());
                if (hasCondition) {
                    holds = row(row(compared(value, 0), TRUTH, 0), CONDITION, 0);
                }
            }
            if (hasCondition) {
                need('?');
                value = part(SUM, 0);
            }
            if (holds == 1 && !found) {
                found = true;
                worth = value;
            }
        }

        private int part(int level, int depth) {
            if (level == UNIT) {
                return unit(depth);
            }
            if (level >= ATOM) {
                return atom(depth);
            }
            return row(part(level + 1, depth), level, depth);
        }

        /** What comes of a CONDITION, TRUTH, SUM or TERM whose first part was read. */
        private int row(int first, int level, int depth) {
            int value = first;
            for (int n = 0; n < TAPE_BYTES; n++) {
                int sign = peek();
                if (sign != BETWEEN.charAt(2 * level) && sign != BETWEEN.charAt(2 * level + 1)) {
                    break;
                }
                at++;
                value = joined(value, sign, part(level + 1, depth));
            }
            return value;
        }

        private static int joined(int left, int sign, int right) {
            switch (sign) {
                case '|':
                    return left | right;
                case '&':
                    return left & right;
                case '+':
                    return held((long) left + right);
                case '-':
                    return held((long) left - right);
                case '*':
                    return held((long) left * right);
                default:
                    return right == 0 ? 0 : left / right;
            }
        }

        private static int held(long value) {
            return (int) Math.max(-BOUND, Math.min(BOUND, value));
        }

        private int unit(int depth) {
            int sign = peek();
            if (sign == '!') {
                return goesIn(depth) ? 1 - unit(depth + 1) : 0;
            }
            if (sign == '(') {
                return goesIn(depth) ? closed(part(CONDITION, depth + 1), ')') : 0;
            }
            return compared(part(SUM, depth), depth);
        }

        private int atom(int depth) {
            int sign = peek();
            if (sign == '[') {
                return goesIn(depth) ? closed(part(SUM, depth + 1), ']') : 0;
            }
            for (int letter = 0; letter < letters.length; letter++) {
                if (LETTERS.charAt(letter) == sign) {
                    at++;
                    return letters[letter];
                }
            }
            return number(4);
        }

        /** Takes one of ( [ ! unless it is the seventh within one another. */
        private boolean goesIn(int depth) {
            if (broken || depth >= DEEPEST) {
                broken = true;
                return false;
            }
            at++;
            return true;
        }

        private int closed(int value, int sign) {
            need(sign);
            return value;
        }

        private static boolean isComparison(int sign) {
            return sign == '=' || sign == '<' || sign == '>';
        }

        private int compared(int left, int depth) {
            int sign = peek();
            if (!isComparison(sign)) {
                broken = true;
                return 0;
            }
            at++;
            int right = part(SUM, depth);
            boolean holds = sign == '=' ? left == right : sign == '<' ? left < right : left > right;
            return holds ? 1 : 0;
        }
    }

    /** All that ACTS change: what all OWE, WORTHS and the like; houses 0: no VILLAGE. */
    private static final class Board {
        private static final int PRIME = 1000003;

        final int[] debts = new int[MOST_HOUSES * MOST_HOUSES];
        final int[] worths = new int[MOST_HOUSES];
        final int[] tempers = new int[MOST_HOUSES];
        final int[] turns = new int[MOST_HOUSES];
        int houses = 0;
        int limit = 0;
        int kept = 0;
        int coins = 0;
        int crossings = 0;

        void clear() {
            for (int i = 0; i < debts.length; i++) {
                debts[i] = 0;
            }
            for (int house = 0; house < MOST_HOUSES; house++) {
                worths[house] = 0;
                tempers[house] = 0;
                turns[house] = 0;
            }
            houses = 0;
            limit = 0;
            kept = 0;
            coins = 0;
            crossings = 0;
        }

        void become(Board other) {
            System.arraycopy(other.debts, 0, debts, 0, debts.length);
            System.arraycopy(other.worths, 0, worths, 0, MOST_HOUSES);
            System.arraycopy(other.tempers, 0, tempers, 0, MOST_HOUSES);
            System.arraycopy(other.turns, 0, turns, 0, MOST_HOUSES);
            houses = other.houses;
            limit = other.limit;
            kept = other.kept;
            coins = other.coins;
            crossings = other.crossings;
        }

        boolean has(int house) {
            return house >= 0 && house < houses;
        }

        boolean isKept(int house) {
            return (kept >> house & 1) == 1;
        }

        int debt(int one, int other) {
            return debts[MOST_HOUSES * one + other];
        }

        void setDebt(int one, int other, int much) {
            debts[MOST_HOUSES * one + other] = much;
            debts[MOST_HOUSES * other + one] = -much;
        }

        int incoming(int house) {
            int together = 0;
            for (int other = 0; other < houses; other++) {
                together += Math.max(0, debt(other, house));
            }
            return together;
        }

        int outgoing(int house) {
            int together = 0;
            for (int other = 0; other < houses; other++) {
                together += Math.max(0, debt(house, other));
            }
            return together;
        }

        /** FAVOURS in all. */
        int favours() {
            int together = 0;
            for (int i = 0; i < debts.length; i++) {
                together += Math.max(0, debts[i]);
            }
            return together;
        }

        int pairs() {
            int found = 0;
            for (int i = 0; i < debts.length; i++) {
                if (debts[i] > 0) {
                    found++;
                }
            }
            return found;
        }

        int mostBetweenTwo() {
            int most = 0;
            for (int i = 0; i < debts.length; i++) {
                most = Math.max(most, debts[i]);
            }
            return most;
        }

        /** Whether a HOUSE is there and can be CROSSED: not KEPT, not BARE, not FULL. */
        boolean canTurn(int house) {
            return has(house) && !isKept(house) && worths[house] != 0 && !isFull(house);
        }

        private boolean isFull(int house) {
            for (int one = 0; one < houses; one++) {
                int comes = debt(one, house);
                if (comes <= 0) {
                    continue;
                }
                for (int other = 0; other < houses; other++) {
                    int goes = debt(house, other);
                    if (goes > 0 && Math.abs(debt(one, other) + comes * goes) > limit) {
                        return true;
                    }
                }
            }
            return false;
        }

        /** CROSSES a HOUSE that can be. */
        void turnOver(int house) {
            renewWorth(house);
            turnDebts(house);
        }

        void turnDebts(int house) {
            for (int one = 0; one < houses; one++) {
                int comes = debt(one, house);
                if (comes <= 0) {
                    continue;
                }
                for (int other = 0; other < houses; other++) {
                    int goes = debt(house, other);
                    if (goes > 0) {
                        setDebt(one, other, debt(one, other) + comes * goes);
                    }
                }
            }
            for (int other = 0; other < houses; other++) {
                setDebt(other, house, -debt(other, house));
            }
        }

        /** The WORTH behind a crossing; to be told while all OWE as ahead of it. */
        void renewWorth(int house) {
            long ahead = 1;
            long behind = 1;
            for (int other = 0; other < houses; other++) {
                int comes = debt(other, house);
                if (comes > 0) {
                    ahead = ahead * power(worths[other], comes) % PRIME;
                } else if (comes < 0) {
                    behind = behind * power(worths[other], -comes) % PRIME;
                }
            }
            worths[house] = (int) ((ahead + behind) % PRIME * inverse(worths[house]) % PRIME);
        }

        private static long power(int base, int exponent) {
            long result = 1;
            long square = base;
            for (int rest = exponent; rest > 0; rest >>= 1) {
                if ((rest & 1) == 1) {
                    result = result * square % PRIME;
                }
                square = square * square % PRIME;
            }
            return result;
        }

        /** By Euclid's steps, fewer than 64 for numbers so small. */
        private static long inverse(int number) {
            long left = PRIME;
            long right = number;
            long leftFactor = 0;
            long rightFactor = 1;
            for (int n = 0; n < 64 && right > 1; n++) {
                long times = left / right;
                long rest = left % right;
                left = right;
                right = rest;
                long factor = leftFactor - times * rightFactor;
                leftFactor = rightFactor;
                rightFactor = factor;
            }
            return (rightFactor % PRIME + PRIME) % PRIME;
        }

        /** CROSSES the HOUSES of a SONG up to one that can't be: whether there was none. */
        boolean follow(int[] digits, int count) {
            for (int i = 0; i < count && i < digits.length; i++) {
                if (!canTurn(digits[i])) {
                    return false;
                }
                turnOver(digits[i]);
            }
            return true;
        }

        boolean hasDebtsOf(Board other) {
            for (int i = 0; i < debts.length; i++) {
                if (debts[i] != other.debts[i]) {
                    return false;
                }
            }
            return true;
        }

        boolean hasWorthsOf(Board other) {
            for (int house = 0; house < houses; house++) {
                if (worths[house] != other.worths[house]) {
                    return false;
                }
            }
            return true;
        }

        /** HOUSES (bits) whom one OWES above 0. */
        private int owedBy(int house) {
            int bits = 0;
            for (int other = 0; other < houses; other++) {
                if (debt(house, other) > 0) {
                    bits |= 1 << other;
                }
            }
            return bits;
        }

        /** The fewest steps, one at least, from one to another; NONE: by none. */
        int steps(int from, int to) {
            int edge = owedBy(from);
            int come = 0;
            for (int n = 1; n <= houses; n++) {
                if ((edge >> to & 1) == 1) {
                    return n;
                }
                come |= edge;
                int next = 0;
                for (int house = 0; house < houses; house++) {
                    if ((edge >> house & 1) == 1) {
                        next |= owedBy(house);
                    }
                }
                edge = next & ~come;
            }
            return NONE;
        }

        /** LEVELS: those who OWE nobody left go together, again and again; who never goes stands on or ahead of a RING. */
        int levels() {
            int left = (1 << houses) - 1;
            for (int n = 0; n <= houses; n++) {
                if (left == 0) {
                    return n;
                }
                int going = 0;
                for (int house = 0; house < houses; house++) {
                    if ((left >> house & 1) == 1 && (owedBy(house) & left) == 0) {
                        going |= 1 << house;
                    }
                }
                left &= ~going;
            }
            return NONE;
        }
    }

    /** The boards as they were ahead of the latest ACTS, and the IMAGE. */
    private static final class Memory {
        final Board[] boards = new Board[MOST_UNDONE];
        final Board imaged = new Board();
        final Chronicle imagedChronicle = new Chronicle();
        int next = 0;
        int size = 0;
        boolean imageStands = false;

        Memory() {
            for (int i = 0; i < MOST_UNDONE; i++) {
                boards[i] = new Board();
            }
        }

        void forgetActs() {
            next = 0;
            size = 0;
        }

        void remember(Board board) {
            boards[next].become(board);
            next = (next + 1) % MOST_UNDONE;
            size = Math.min(size + 1, MOST_UNDONE);
        }

        boolean recall(Board board) {
            if (size <= 0) {
                return false;
            }
            next = (next + MOST_UNDONE - 1) % MOST_UNDONE;
            size--;
            board.become(boards[next]);
            return true;
        }

        void takeImage(Board board, Chronicle chronicle) {
            imaged.become(board);
            imagedChronicle.become(chronicle);
            imageStands = true;
        }

        boolean bringBack(Board board, Chronicle chronicle) {
            if (!imageStands) {
                return false;
            }
            board.become(imaged);
            chronicle.become(imagedChronicle);
            forgetActs();
            return true;
        }
    }

    /** The LOG. It has more room than is told of it, so that what an undone CROSSING had pushed out is told again. */
    private static final class Chronicle {
        private static final int ROOM = 128;

        final int[] which = new int[ROOM];
        final int[] favours = new int[ROOM];
        final int[] rings = new int[ROOM];

        void write(int crossing, int house, int inAll, boolean isRing) {
            int place = crossing & ROOM - 1;
            which[place] = house;
            favours[place] = inAll;
            rings[place] = isRing ? 1 : 0;
        }

        int told(int crossing, int what) {
            int place = crossing & ROOM - 1;
            switch (what) {
                case 0:
                    return which[place];
                case 1:
                    return favours[place];
                case 2:
                    return rings[place];
                default:
                    return NONE;
            }
        }

        void become(Chronicle other) {
            System.arraycopy(other.which, 0, which, 0, ROOM);
            System.arraycopy(other.favours, 0, favours, 0, ROOM);
            System.arraycopy(other.rings, 0, rings, 0, ROOM);
        }
    }

    /** What was SEEN, and what each SONG would let be seen. */
    private static final class Sightings {
        final int[] ones = new int[MOST_SEEN];
        final int[] others = new int[MOST_SEEN];
        final int[] times = new int[MOST_SEEN];
        final int[] values = new int[MOST_SEEN];
        final boolean[] are = new boolean[MOST_SEEN];
        final int[][] foretold = new int[MOST_TEXTS][SEEN_TIMES + 1];
        int count = 0;

        void put(int one, int other, int time, int value, boolean is) {
            if (count < 0 || count >= MOST_SEEN) {
                return;
            }
            ones[count] = one;
            others[count] = other;
            times[count] = time;
            values[count] = value;
            are[count] = is;
            count++;
        }

        /** Whether all that was SEEN behind so many times is so on the board (can: the SONG can be so often). */
        boolean agree(int time, boolean can, Board board) {
            for (int i = 0; i < count; i++) {
                if (times[i] == time) {
                    boolean owed = can && board.debt(ones[i], others[i]) == values[i];
                    if (owed != are[i]) {
                        return false;
                    }
                }
            }
            return true;
        }

        /** The most of the SONGS (bits) of which the same is foretold. */
        int mostAlike(int songs, int time) {
            int most = 0;
            for (int song = 0; song < MOST_TEXTS; song++) {
                int alike = 0;
                for (int other = 0; other < MOST_TEXTS; other++) {
                    if ((songs >> other & 1) == 1 && foretold[other][time] == foretold[song][time]) {
                        alike++;
                    }
                }
                if ((songs >> song & 1) == 1) {
                    most = Math.max(most, alike);
                }
            }
            return most;
        }
    }

    /** All rows of crossings from a board, up to so many: the tables they lead to, or the best of them. */
    private static final class Walk {
        static final int TABLES = 0;
        static final int RINGS = 1;
        static final int FAVOURS = 2;
        private static final int TABLE_ROOM = 2048;
        private static final int BEYOND_ALL = 1000000;

        final Board[] path = new Board[MOST_STEPS + 1];
        // eight bits hold what one OWES another, so two longs hold a table of what all OWE
        final long[] left = new long[TABLE_ROOM];
        final long[] right = new long[TABLE_ROOM];
        final int[] filledIn = new int[TABLE_ROOM];
        int round = 0;
        int tables = 0;
        int most = 0;
        int aim = TABLES;
        int least = 0;
        int steps = 0;
        int row = 0;

        Walk() {
            for (int i = 0; i <= MOST_STEPS; i++) {
                path[i] = new Board();
            }
        }

        void search(Board from, int mostSteps, int what) {
            most = Math.max(0, Math.min(MOST_STEPS, mostSteps));
            aim = what;
            // places filled in an earlier round count as empty, so nothing need be wiped
            round++;
            tables = 0;
            least = BEYOND_ALL;
            steps = 0;
            row = 0;
            path[0].become(from);
            visit(0, NONE, 0);
        }

        private void visit(int depth, int last, int digits) {
            Board here = path[depth];
            weigh(here, depth, digits);
            boolean cannotBeBettered = least == 0 && depth + 1 >= steps;
            if (depth >= most || cannotBeBettered) {
                return;
            }
            Board next = path[depth + 1];
            for (int house = 0; house < here.houses; house++) {
                // the same HOUSE twice leads back: to nothing new, nor to anything with fewer crossings
                if (house == last || !here.canTurn(house)) {
                    continue;
                }
                next.become(here);
                // a WORTH is asked for when its HOUSE is next CROSSED, two crossings on at the earliest
                if (depth + 2 < most) {
                    next.renewWorth(house);
                }
                next.turnDebts(house);
                visit(depth + 1, house, 10 * digits + house);
            }
        }

        /** Of rows of one length the least comes first, so a later one must be better or shorter. */
        private void weigh(Board here, int depth, int digits) {
            if (aim == TABLES) {
                addTable(here);
                return;
            }
            int weight = here.favours();
            if (aim == RINGS) {
                weight = here.levels() == NONE ? 1 : 0;
            }
            if (weight < least || weight == least && depth < steps) {
                least = weight;
                steps = depth;
                row = digits;
            }
        }

        private void addTable(Board board) {
            long one = 0;
            long other = 0;
            int pair = 0;
            for (int house = 0; house < MOST_HOUSES; house++) {
                for (int next = house + 1; next < MOST_HOUSES; next++) {
                    int held = board.debt(house, next) + 128;
                    if (pair < 8) {
                        one = one << 8 | held;
                    } else {
                        other = other << 8 | held;
                    }
                    pair++;
                }
            }
            fillIn(one, other);
        }

        private void fillIn(long one, long other) {
            int place = (int) ((one * 31 + other) * 0x9E3779B97F4A7C15L >>> 53) & TABLE_ROOM - 1;
            for (int n = 0; n < TABLE_ROOM; n++) {
                if (filledIn[place] != round) {
                    filledIn[place] = round;
                    left[place] = one;
                    right[place] = other;
                    tables++;
                    return;
                }
                if (left[place] == one && right[place] == other) {
                    return;
                }
                place = place + 1 & TABLE_ROOM - 1;
            }
        }
    }

    /** ODDS: a SONG each of whose digits may slip to the next HOUSE. */
    private static final class Slips {
        private static final long PARTS = 1000000000L;

        final Board[] path = new Board[SLIP_DIGITS + 1];
        int[] song = new int[0];
        int length = 0;
        int chance = 0;

        Slips() {
            for (int i = 0; i <= SLIP_DIGITS; i++) {
                path[i] = new Board();
            }
        }

        int quietParts(Board from, int[] digits, int count, int hundredths) {
            song = digits;
            length = Math.max(0, Math.min(Math.min(count, SLIP_DIGITS), digits.length));
            chance = hundredths;
            path[0].become(from);
            return (int) quiet(0, PARTS);
        }

        /** Of so many parts that stand at a digit, those that end without a RING. */
        private long quiet(int depth, long parts) {
            Board here = path[depth];
            if (depth >= length) {
                return here.levels() == NONE ? 0 : parts;
            }
            int digit = song[depth];
            long slipping = parts * chance / 100;
            int next = digit + 1 == here.houses ? 0 : digit + 1;
            long quiet = branch(depth, digit, parts - slipping);
            return quiet + branch(depth, here.has(digit) ? next : NONE, slipping);
        }

        private long branch(int depth, int house, long parts) {
            if (parts <= 0) {
                return 0;
            }
            Board next = path[depth + 1];
            next.become(path[depth]);
            if (next.canTurn(house)) {
                next.turnOver(house);
            }
            return quiet(depth + 1, parts);
        }
    }
}
