/** All that can be seen of an object, told line by line, so that two can be held against one another. */
final class Look {
    private Look() {
    }

    /** What can be seen without changing anything: some 300 calls. */
    static String at(CrossedFavours x) {
        StringBuilder s = new StringBuilder();
        for (int what = 0; what < 12; what++) {
            line(s, "count " + what, x.count(what));
        }
        for (int what = 0; what < 6; what++) {
            line(s, "status " + what, x.status(what));
        }
        for (int sort = 0; sort < 3; sort++) {
            line(s, "fault " + sort, x.fault(sort));
        }
        int houses = x.count(0);
        for (int house = 0; house < houses; house++) {
            for (int what = 0; what < 7; what++) {
                line(s, "house " + house + "," + what, Told.house(x, house, what));
            }
            for (int other = 0; other < house; other++) {
                line(s, "owes " + house + "," + other, x.owes(house, other));
            }
        }
        songs(s, x);
        for (int i = 0; i < x.count(10); i++) {
            for (int what = 0; what < 3; what++) {
                line(s, "log " + i + "," + what, x.log(i, what));
            }
        }
        line(s, "fits", x.fits());
        return s.toString();
    }

    private static void songs(StringBuilder s, CrossedFavours x) {
        for (int song = 0; song < x.count(3); song++) {
            int digits = x.sung(song, -1);
            for (int i = 0; i < digits; i++) {
                line(s, "sung " + song + "," + i, x.sung(song, i));
            }
        }
    }

    /** The same, and what comes to be seen as the acts are undone and the image is brought back; nothing stands as it was then. */
    static String through(CrossedFavours x) {
        StringBuilder s = new StringBuilder(at(x));
        for (int left = x.count(11); left > 0; left--) {
            line(s, "undo", x.undo());
            brief(s, x);
        }
        line(s, "undo of none", x.undo());
        line(s, "back", x.back());
        brief(s, x);
        return s.toString();
    }

    private static void brief(StringBuilder s, CrossedFavours x) {
        line(s, "coins then", x.count(7));
        line(s, "crossings then", x.count(6));
        line(s, "favours then", x.all(5));
        line(s, "kept then", x.all(10));
    }

    private static void line(StringBuilder s, String call, long answer) {
        s.append(call).append(": ").append(answer).append("\n");
    }
}
