/** Promises 15 to 22: says, point, tenths, late, beyond, held, line, slip. */
public final class FlownTest {
    private static final int NONE = ColdRing.NONE;

    private FlownTest() {
    }

    public static void main(String[] args) {
        says();
        saysOfMany();
        points();
        spans();
        late();
        beyond();
        held();
        line();
        Check.finish("FlownTest");
    }

    private static ColdRing flown(int... warmths) {
        ColdRing x = new ColdRing();
        for (int w : warmths) {
            x.flight(w, 0, 1);
        }
        return x;
    }

    private static void saysDue(ColdRing x, int which, int ways, int all) {
        Check.due("ways for " + which, x.says(which, 0), ways);
        Check.due("of how many for " + which, x.says(which, 1), all);
    }

    private static void says() {
        ColdRing x = flown();
        saysDue(x, 0, 1, 1);
        saysDue(x, 1, 1, 1);
        x = flown(10, -20, 30, 10, 50);
        saysDue(x, 0, 1, 1);
        x.ring(0, 0, 1);
        saysDue(x, 0, 3, 5);
        saysDue(x, 1, 1, 1);
        x.ring(1, 0, 3);
        saysDue(x, 0, 2, 10);
        saysDue(x, 1, 1, 2);
        x.ring(4, 0, 2);
        saysDue(x, 0, 5, 10);
        saysDue(x, 1, 2, 3);
        x.ring(2, 0, 1);
        saysDue(x, 0, 4, 5);
        x.ring(3, 0, 1);
        saysDue(x, 0, 1, 1);
        x.ring(1, 0, NONE);
        saysDue(x, 0, 1, 1);
        x.ring(0, 0, 0);
        saysDue(x, 0, 4, 4);
        int[][] wrong = {{2, 0}, {-1, 0}, {0, 2}, {0, -1}};
        for (int[] w : wrong) {
            Check.due("says that can't be", x.says(w[0], w[1]), NONE);
        }
    }

    private static void saysOfMany() {
        ColdRing x = new ColdRing();
        for (int f = 0; f < 24; f++) {
            x.flight(f < 12 ? -40 : 120, 0, 1);
        }
        for (int f = 0; f < 12; f++) {
            x.ring(f + 12, 0, 1);
        }
        saysDue(x, 0, 2704156, 2704156);
        for (int f = 0; f < 12; f++) {
            x.ring(f, 0, 1);
            x.ring(f + 12, 0, 0);
        }
        saysDue(x, 0, 1, 2704156);
        x.ring(0, 0, 0);
        x.ring(12, 0, 1);
        saysDue(x, 0, 145, 2704156);
        for (int f = 1; f < 24; f++) {
            x.ring(f, 0, 2);
        }
        saysDue(x, 0, 24, 24);
        x.ring(0, 0, 2);
        x.ring(23, 0, 1);
        saysDue(x, 0, 1, 1);
        saysDue(x, 1, 12, 24);
    }

    private static void points() {
        ColdRing x = new ColdRing();
        int[][] wrong = {{-41, 0}, {121, 0}, {0, -1}, {0, 601}};
        for (int[] w : wrong) {
            Check.due("point that can't be", x.point(w[0], w[1]), -1);
            Check.due("status", x.status(), -1);
        }
        Check.due("the coldest", x.point(-40, 600), 1);
        Check.due("the warmest", x.point(120, 0), 2);
        Check.due("status", x.status(), 0);
        for (int i = 0; i < 10; i++) {
            Check.due("point " + i, x.point(i, i), i + 3);
        }
        Check.due("the 13th", x.point(50, 1), -5);
        Check.due("the 13th that can't be", x.point(50, 601), -1);
        Check.due("told again", x.point(9, 77), 12);
        Check.due("the later one counts", x.tenths(9, 0), 77);
        Check.due("POINTS", x.count(2), 12);
        Check.due("REFUSED by -5", x.count(12), 1);
    }

    private static void spanDue(ColdRing x, int warmth, int least, int most) {
        Check.due("least at " + warmth, x.tenths(warmth, 0), least);
        Check.due("most at " + warmth, x.tenths(warmth, 1), most);
    }

    private static void spans() {
        ColdRing x = new ColdRing();
        spanDue(x, 0, NONE, NONE);
        x.point(50, 10);
        spanDue(x, 50, 10, 10);
        spanDue(x, 49, NONE, NONE);
        spanDue(x, 51, NONE, NONE);
        x.point(80, 30);
        x.point(60, 0);
        x.point(20, 600);
        spanDue(x, 20, 600, 600);
        spanDue(x, 21, 10, 600);
        spanDue(x, 49, 10, 600);
        spanDue(x, 59, 0, 10);
        spanDue(x, 60, 0, 0);
        spanDue(x, 61, 0, 30);
        spanDue(x, 79, 0, 30);
        spanDue(x, 19, NONE, NONE);
        spanDue(x, 81, NONE, NONE);
        spanDue(x, -41, NONE, NONE);
        spanDue(x, 121, NONE, NONE);
        Check.due("no such what", x.tenths(60, 2), NONE);
        Check.due("no such what", x.tenths(60, -1), NONE);
    }

    private static void late() {
        ColdRing x = new ColdRing();
        Check.due("no POINT", x.late(0), 3);
        x.point(10, 7);
        x.point(20, 5);
        Check.due("7 within 6", x.late(10), 2);
        Check.due("5 to 7 within 6", x.late(15), 1);
        Check.due("5 within 6", x.late(20), 0);
        Check.due("BEYOND", x.late(9), 3);
        Check.due("BEYOND", x.late(21), 3);
        x.terms(0, 7);
        Check.due("5 to 7 within 7", x.late(15), 0);
        x.terms(0, 5);
        Check.due("5 to 7 within 5", x.late(15), 1);
        x.terms(0, 4);
        Check.due("5 to 7 within 4", x.late(15), 2);
        Check.due("can't be", x.late(-41), NONE);
        Check.due("can't be", x.late(121), NONE);
    }

    private static void beyond() {
        ColdRing x = flown();
        Check.due("nothing flown", x.beyond(0), NONE);
        x = flown(20, 60, -10, 120);
        x.ring(2, 0, NONE);
        Check.due("far below", x.beyond(-40), 60);
        Check.due("just below", x.beyond(19), 1);
        Check.due("at it", x.beyond(20), 0);
        Check.due("between", x.beyond(40), 0);
        x.ring(3, 0, NONE);
        Check.due("above", x.beyond(63), 3);
        Check.due("can't be", x.beyond(-41), NONE);
        Check.due("can't be", x.beyond(121), NONE);
        x.ring(0, 0, NONE);
        x.ring(1, 0, NONE);
        Check.due("all LOST", x.beyond(0), NONE);
        Check.due("one alone, at the warmest", flown(120).beyond(119), 1);
        Check.due("one alone, at it", flown(120).beyond(120), 0);
        Check.due("one alone, at the coldest", flown(-40).beyond(-39), 1);
    }

    private static void heldDue(ColdRing x, int margin, int held, int needed) {
        x.terms(3, margin);
        Check.due("HELD by " + margin, x.held(0), held);
        Check.due("NEEDED by " + margin, x.held(1), needed);
        Check.due("NEEDLESS by " + margin, x.held(2), held - needed);
    }

    private static void held() {
        ColdRing x = flown();
        heldDue(x, 0, 0, 0);
        x = flown(100, 50, 55, 45, 40, 48, 70);
        x.ring(0, 0, NONE);
        x.ring(1, 0, 4);
        x.ring(3, 0, 1);
        x.ring(6, 0, 2);
        heldDue(x, 0, 5, 2);
        heldDue(x, 4, 4, 2);
        heldDue(x, 5, 1, 1);
        heldDue(x, 14, 1, 1);
        heldDue(x, 15, 0, 0);
        heldDue(flown(120, 119), 0, 1, 0);
        heldDue(flown(-40, -39), 0, 1, 0);
        heldDue(flown(7, 7, 7), 0, 0, 0);
        Check.due("no such what", x.held(3), NONE);
        Check.due("no such what", x.held(-1), NONE);
    }

    private static void line() {
        ColdRing x = flown();
        Check.due("no FLIGHT", x.line(0), NONE);
        Check.due("no slip", x.slip(NONE), 0);
        Check.due("no slip", x.slip(0), NONE);
        x = flown(1, 2, 3, 4, 5, 6);
        int[] scorch = {NONE, 2, 1, 2, 5, NONE};
        int[] line = {0, 2, 2, 2, 5, 5};
        for (int f = 0; f < 6; f++) {
            x.ring(f, 0, scorch[f]);
        }
        for (int f = 0; f < 6; f++) {
            Check.due("line behind " + f, x.line(f), line[f]);
        }
        Check.due("slips", x.slip(NONE), 2);
        Check.due("slip 0", x.slip(0), 1);
        Check.due("slip 1", x.slip(1), 4);
        Check.due("slip 2", x.slip(2), NONE);
        Check.due("slip -2", x.slip(-2), NONE);
        x.ring(0, 0, 1);
        Check.due("at the first one", x.slip(0), 0);
        Check.due("slips", x.slip(NONE), 3);
        Check.due("line(-1)", x.line(-1), NONE);
        Check.due("line(6)", x.line(6), NONE);
    }
}
