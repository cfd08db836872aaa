/** Promises 23 to 25: picture, seen, best. */
public final class PictureTest {
    private static final int NONE = ColdRing.NONE;

    private PictureTest() {
    }

    public static void main(String[] args) {
        order();
        ofWhichFlights();
        changesAndTakenOut();
        best();
        bestByTakenOut();
        Check.finish("PictureTest");
    }

    private static void orderDue(ColdRing x, int text, int which, int... want) {
        for (int i = 0; i < want.length; i++) {
            Check.due("picture(" + text + ", " + which + ", " + i + ")", x.picture(text, which, i), want[i]);
        }
        Check.due("behind the last", x.picture(text, which, want.length), NONE);
        Check.due("flights", x.seen(text, which, 0), want.length);
    }

    private static void order() {
        ColdRing x = new ColdRing();
        Check.text(x, "key warmth");
        orderDue(x, 0, 0);
        Check.due("CHANGES of none", x.seen(0, 0, 1), 0);
        Check.due("TAKEN OUT of none", x.seen(0, 0, 2), 0);
        int[] warmths = {70, 50, 70, -10, 50};
        for (int w : warmths) {
            x.flight(w, 0, 1);
        }
        orderDue(x, 0, 0, 3, 1, 4, 0, 2);
        Check.text(x, "key 0-warmth");
        orderDue(x, 1, 0, 0, 2, 1, 4, 3);
        Check.text(x, "stop");
        orderDue(x, 2, 0, 0, 1, 2, 3, 4);
        Check.text(x, "key warmth if warmth<60;key 0-1 if warmth=50");
        orderDue(x, 3, 0, 3, 1, 4, 0, 2);
        Check.text(x, "key 1000*1000*1000 if warmth<0;key 0-1000*1000*1000 if warmth>60");
        orderDue(x, 4, 0, 0, 2, 1, 4, 3);
        Check.due("below the first", x.picture(0, 0, -1), NONE);
        int[][] wrong = {{-1, 0}, {5, 0}, {0, 2}, {0, -1}};
        for (int[] w : wrong) {
            Check.due("picture that can't be", x.picture(w[0], w[1], 0), NONE);
            Check.due("seen that can't be", x.seen(w[0], w[1], 0), NONE);
        }
        Check.due("no such what", x.seen(0, 0, 3), NONE);
        Check.due("no such what", x.seen(0, 0, -1), NONE);
    }

    private static void ofWhichFlights() {
        ColdRing x = new ColdRing();
        for (int f = 0; f < 5; f++) {
            x.flight(100 - f, 0, 2);
        }
        Check.text(x, "key warmth");
        x.ring(1, 0, NONE);
        x.ring(1, 1, NONE);
        x.ring(2, 1, 1);
        x.ring(3, 0, NONE);
        x.ring(4, 0, 2);
        orderDue(x, 0, 0, 4, 3, 2, 0);
        orderDue(x, 0, 1, 4, 2);
        Check.due("BAD, not, BAD, not", x.seen(0, 0, 1), 3);
        Check.due("BAD by WORST above 1, then not", x.seen(0, 1, 1), 1);
    }

    /** The flights' order is that of their numbers; signs other than '.' are SCORCHED. */
    private static void seenDue(String signs, int changes, int takenOut) {
        ColdRing x = new ColdRing();
        Check.text(x, "key 0");
        for (int f = 0; f < signs.length(); f++) {
            x.flight(0, 0, 1);
            x.ring(f, 0, signs.charAt(f) == '.' ? 0 : 1);
        }
        Check.due("CHANGES of " + signs, x.seen(0, 0, 1), changes);
        Check.due("TAKEN OUT of " + signs, x.seen(0, 0, 2), takenOut);
    }

    private static void changesAndTakenOut() {
        seenDue(".", 0, 0);
        seenDue("#", 0, 0);
        seenDue(".#", 1, 0);
        seenDue("##..", 1, 0);
        seenDue(".#.", 2, 1);
        seenDue("#.#", 2, 1);
        seenDue(".#.#", 3, 1);
        seenDue("##.##", 2, 1);
        seenDue("##...##", 2, 2);
        seenDue("..##..##", 3, 2);
        seenDue(".#.#.#.#", 7, 3);
        seenDue("#.#.#.#.#.#.#.#.#.#.#.#.", 23, 11);
        seenDue("........................", 0, 0);
        seenDue("...........#............", 2, 1);
    }

    private static void best() {
        ColdRing x = new ColdRing();
        Check.due("no TEXT", x.best(0), NONE);
        Check.text(x, "key press");
        Check.due("the only one", x.best(0), 0);
        Check.text(x, "key warmth");
        Check.text(x, "key 0-warmth");
        Check.due("no flight: the lowest", x.best(0), 0);
        int[][] flights = {{60, 0, 0}, {50, 1, 3}, {70, 2, 0}, {40, 3, 1}};
        for (int f = 0; f < 4; f++) {
            x.flight(flights[f][0], flights[f][1], 1);
            x.ring(f, 0, flights[f][2]);
        }
        Check.due("the first with one CHANGE", x.best(0), 1);
        Check.due("of the SCORCHED alone all are alike", x.best(1), 0);
        Check.due("best(2)", x.best(2), NONE);
        Check.due("best(-1)", x.best(-1), NONE);
    }

    /** As many CHANGES, fewer TAKEN OUT: "##...##" by number, ".##.." and two more by key. */
    private static void bestByTakenOut() {
        ColdRing x = new ColdRing();
        Check.text(x, "key 0");
        Check.text(x, "key press");
        int[] press = {0, 0, 1, 1, 1, 1, 2};
        String signs = "##...##";
        for (int f = 0; f < 7; f++) {
            x.flight(0, press[f], 1);
            x.ring(f, 0, signs.charAt(f) == '.' ? 0 : 1);
        }
        Check.due("two CHANGES, two TAKEN OUT", x.seen(0, 0, 1) * 10 + x.seen(0, 0, 2), 22);
        Check.due("alike", x.best(0), 0);
        Check.text(x, "key press;key 9 if press=0");
        Check.due("one CHANGE", x.best(0), 2);
        ColdRing y = new ColdRing();
        Check.text(y, "key 0");
        Check.text(y, "key press");
        int[] other = {0, 2, 2, 2, 2, 1, 3};
        signs = "##...##";
        for (int f = 0; f < 7; f++) {
            y.flight(0, other[f], 1);
            y.ring(f, 0, signs.charAt(f) == '.' ? 0 : 1);
        }
        Check.due("by number two CHANGES, two TAKEN OUT", y.seen(0, 0, 1) * 10 + y.seen(0, 0, 2), 22);
        Check.due("by key two CHANGES, one TAKEN OUT", y.seen(1, 0, 1) * 10 + y.seen(1, 0, 2), 21);
        Check.due("the fewer TAKEN OUT", y.best(0), 1);
    }
}
