/** Promises 1 to 8: a new object, flight, ring, of, terms, feed, end, row. */
public final class FlightTest {
    private static final int NONE = ColdRing.NONE;

    private FlightTest() {
    }

    public static void main(String[] args) {
        newObject();
        flights();
        mostFlights();
        rings();
        whatAFlightIs();
        terms();
        tape();
        rows();
        rowsRefused();
        Check.finish("FlightTest");
    }

    private static void newObject() {
        ColdRing x = new ColdRing();
        for (int what = 0; what <= 13; what++) {
            Check.due("count(" + what + ") of a new one", x.count(what), 0);
        }
        Check.due("status of a new one", x.status(), 0);
        Check.due("fault of a new one", x.fault(), NONE);
        Check.due("of(0, 0) of a new one", x.of(0, 0), -1000);
        Check.due("back(0) of a new one", x.back(0), -2);
        int[] first = {6, 1, 0, 0};
        for (int what = 0; what < 4; what++) {
            Check.due("TERM " + what + " at first", x.terms(what, 1), first[what]);
        }
    }

    private static void flights() {
        ColdRing x = new ColdRing();
        Check.due("coldest", x.flight(-40, 0, 1), 0);
        Check.due("warmest", x.flight(120, 9, 6), 1);
        int[][] wrong = {{-41, 0, 1}, {121, 0, 1}, {0, -1, 1}, {0, 10, 1}, {0, 0, 0}, {0, 0, 7}, {0, 0, -1},
            {Integer.MIN_VALUE, 0, 1}, {0, Integer.MAX_VALUE, 1}, {0, 0, Integer.MAX_VALUE}};
        for (int[] w : wrong) {
            Check.due("flight that can't be", x.flight(w[0], w[1], w[2]), -1);
            Check.due("its status", x.status(), -1);
        }
        Check.due("FLIGHTS", x.count(0), 2);
        Check.due("REFUSED by -1", x.count(9), wrong.length);
        Check.due("one more", x.flight(0, 0, 1), 2);
        Check.due("its status", x.status(), 0);
    }

    private static void mostFlights() {
        ColdRing x = new ColdRing();
        for (int i = 0; i < 24; i++) {
            Check.due("flight " + i, x.flight(i, 1, 6), i);
        }
        Check.due("the 25th", x.flight(0, 1, 6), -5);
        Check.due("a 25th that can't be", x.flight(0, 1, 7), -1);
        Check.due("REFUSED by -5", x.count(12), 1);
        Check.due("the last one's last RING", x.ring(23, 5, 9), 0);
        Check.due("its WORST", x.of(23, 3), 9);
        Check.due("its neighbour's", x.of(22, 3), 0);
    }

    private static void rings() {
        ColdRing x = new ColdRing();
        x.flight(60, 5, 2);
        Check.due("ring(0, 1, 9)", x.ring(0, 1, 9), 0);
        Check.due("ring(0, 1, -1)", x.ring(0, 1, -1), 9);
        Check.due("ring(0, 1, 4), LOST ahead of it", x.ring(0, 1, 4), NONE);
        Check.due("what was LOST is not REFUSED", x.status(), 0);
        Check.due("ring(0, 1, 10)", x.ring(0, 1, 10), -1);
        Check.due("ring(0, 1, -2)", x.ring(0, 1, -2), -1);
        Check.due("status", x.status(), -1);
        Check.due("ring(1, 0, 0)", x.ring(1, 0, 0), -2);
        Check.due("ring(-1, 0, 0)", x.ring(-1, 0, 0), -2);
        Check.due("ring(0, 2, 0)", x.ring(0, 2, 0), -2);
        Check.due("ring(0, -1, 0)", x.ring(0, -1, 0), -2);
        Check.due("status", x.status(), -2);
        Check.due("-1 ahead of -2", x.ring(7, 7, 10), -1);
        Check.due("it stays", x.ring(0, 1, 4), 4);
    }

    private static void whatAFlightIs() {
        ColdRing x = new ColdRing();
        x.flight(-7, 3, 3);
        int[] plain = {-7, 3, 3, 0, 0, 0};
        ofDue(x, plain);
        x.ring(0, 0, 2);
        x.ring(0, 1, 5);
        ofDue(x, new int[] {-7, 3, 3, 5, 1, 0});
        x.ring(0, 1, -1);
        ofDue(x, new int[] {-7, 3, 3, 2, 1, 0});
        x.ring(0, 0, -1);
        ofDue(x, plain);
        Check.due("KNOWN by one RING", x.count(6), 1);
        x.ring(0, 2, -1);
        ofDue(x, new int[] {-7, 3, 3, 0, 0, 1});
        Check.due("LOST", x.count(6), 0);
        int[][] without = {{-1, 0}, {1, 0}, {0, -1}, {0, 6}, {24, 3}};
        for (int[] w : without) {
            Check.due("of(" + w[0] + ", " + w[1] + ")", x.of(w[0], w[1]), -1000);
        }
        Check.due("of is never REFUSED", x.status() + x.count(9) + x.count(10), 0);
    }

    private static void ofDue(ColdRing x, int[] want) {
        for (int what = 0; what < 6; what++) {
            Check.due("of(0, " + what + ")", x.of(0, what), want[what]);
        }
    }

    private static void terms() {
        ColdRing x = new ColdRing();
        int[][] bounds = {{0, 600, 6}, {1, 12, 1}, {0, 100, 0}, {0, 99, 0}};
        for (int what = 0; what < 4; what++) {
            int least = bounds[what][0];
            int most = bounds[what][1];
            Check.due("TERM " + what + " below", x.terms(what, least - 1), -1);
            Check.due("TERM " + what + " above", x.terms(what, most + 1), -1);
            Check.due("TERM " + what + " at first", x.terms(what, most), bounds[what][2]);
            Check.due("status", x.status(), 0);
            Check.due("TERM " + what + " then", x.terms(what, least), most);
            Check.due("TERM " + what + " at last", x.terms(what, least), least);
        }
        Check.due("no such TERM", x.terms(4, 1), -1);
        Check.due("no such TERM", x.terms(-1, 1), -1);
        Check.due("status", x.status(), -1);
        Check.due("REFUSED by -1", x.count(9), 10);
    }

    private static void tape() {
        ColdRing x = new ColdRing();
        for (int i = 1; i <= 20; i++) {
            Check.due("feed " + i, x.feed(0, 0, 0, 0, 0), 20 * i);
        }
        Check.due("401 bytes and more", x.feed(0, 0, 0, 0, 0), NONE);
        Check.due("bytes", x.count(8), 400);
        Check.due("end(401)", x.end(401), NONE);
        Check.due("end(-1)", x.end(-1), NONE);
        Check.due("end(400)", x.end(400), 400);
        Check.due("end(381)", x.end(381), 381);
        Check.due("one byte too many", x.feed(1, 2, 3, 4, 5), NONE);
        Check.due("bytes", x.count(8), 381);
        Check.due("end(382), of which there are not so many", x.end(382), NONE);
        Check.due("end(380)", x.end(380), 380);
        Check.due("up to 400", x.feed(1, 2, 3, 4, 5), 400);
        Check.due("end(0)", x.end(0), 0);
        Check.due("end(0) again", x.end(0), 0);
        Check.due("bytes", x.count(8), 0);
        Check.due("none of it is REFUSED", x.status() + x.count(9), 0);
        Check.due("what is fed behind what stays", Check.text(x, "odds 3"), 0);
        Check.put(x, "odds 7777");
        x.end(6);
        Check.put(x, "1");
        Check.due("odds 71", x.text(), 1);
        Check.due("odds 71", x.odds(1, 0, 0, 0), 71);
    }

    private static void rows() {
        ColdRing x = new ColdRing();
        Check.put(x, new byte[] {0, 66, -1, -40, 0, 120, 0, 121, -1, -41, 1, 0, -1, -1, 5});
        Check.due("row", x.row(4, 3), 4);
        Check.due("status", x.status(), 0);
        Check.due("the TAPE is empty", x.count(8), 0);
        int[] warmth = {66, -40, 120, 0, 0, 0, -1, 0};
        int[] lost = {0, 0, 0, 1, 1, 1, 0, 1};
        Check.due("FLIGHTS", x.count(0), 8);
        Check.due("KNOWN", x.count(6), 4);
        for (int f = 0; f < 8; f++) {
            Check.due("WARMTH of " + f, x.of(f, 0), warmth[f]);
            Check.due("PRESS of " + f, x.of(f, 1), 4);
            Check.due("RINGS of " + f, x.of(f, 2), 3);
            Check.due("LOST " + f, x.of(f, 5), lost[f]);
        }
        Check.due("a LOST RING's SCORCH", x.ring(3, 2, 1), NONE);
        Check.due("it is SCORCHED", x.of(3, 4), 1);
        Check.due("a RING that was not LOST", x.ring(0, 0, 0), 0);
        Check.put(x, new byte[] {9});
        Check.due("a single byte", x.row(0, 1), 1);
        Check.due("it is the ninth", x.of(8, 5), 1);
        Check.put(x, new byte[] {0, 1, 0, 2});
        x.end(3);
        Check.due("a byte that was cut is not read", x.row(0, 1), 1);
    }

    private static void rowsRefused() {
        ColdRing x = new ColdRing();
        Check.due("the TAPE is empty", x.row(0, 1), -6);
        Check.due("status", x.status(), -6);
        Check.put(x, new byte[] {0, 1, 0, 2});
        int[][] wrong = {{-1, 1}, {10, 1}, {0, 0}, {0, 7}};
        for (int[] w : wrong) {
            Check.due("row(" + w[0] + ", " + w[1] + ")", x.row(w[0], w[1]), -1);
            Check.due("the TAPE stays", x.count(8), 4);
        }
        for (int i = 0; i < 23; i++) {
            x.flight(0, 0, 1);
        }
        Check.due("25 FLIGHTS", x.row(0, 1), -5);
        Check.due("none comes", x.count(0), 23);
        Check.due("the TAPE is empty then", x.count(8), 0);
        Check.put(x, new byte[] {0, 1, 0});
        Check.due("25 FLIGHTS, the last one cut", x.row(0, 1), -5);
        Check.put(x, new byte[] {0, 1});
        Check.due("24 FLIGHTS", x.row(0, 1), 0);
        Check.due("an empty TAPE and no room", x.row(0, 1), -6);
        Check.put(x, new byte[] {0});
        Check.due("no room", x.row(0, 1), -5);
        Check.due("-1 ahead of -6", x.row(0, 9), -1);
        Check.due("REFUSED by -6", x.count(13), 2);
    }
}
