/** Promises 11 to 14: odds, times, likely, cold. */
public final class OddsTest {
    private static final int NONE = ColdRing.NONE;

    private OddsTest() {
    }

    public static void main(String[] args) {
        odds();
        times();
        timesOfManyRings();
        whichRings();
        likely();
        cold();
        Check.finish("OddsTest");
    }

    private static void odds() {
        ColdRing x = new ColdRing();
        Check.text(x, "odds warmth*1+press*10+ring");
        Check.due("odds", x.odds(0, 40, 3, 5), 75);
        Check.due("at the least", x.odds(0, -40, 0, 0), 1);
        Check.due("at the most", x.odds(0, 120, 9, 5), 99);
        int[][] wrong = {{-1, 0, 0, 0}, {1, 0, 0, 0}, {0, -41, 0, 0}, {0, 121, 0, 0}, {0, 0, -1, 0}, {0, 0, 10, 0},
            {0, 0, 0, -1}, {0, 0, 0, 6}};
        for (int[] w : wrong) {
            Check.due("odds that can't be", x.odds(w[0], w[1], w[2], w[3]), NONE);
        }
        Check.due("none of it is REFUSED", x.count(9) + x.count(10) + x.status(), 0);
    }

    private static void times() {
        ColdRing x = new ColdRing();
        Check.text(x, "odds 90");
        Check.text(x, "odds 30");
        Check.due("without flights all are as LIKELY", x.times(0, 1, 0), 1);
        x.flight(60, 0, 2);
        x.ring(0, 0, 1);
        x.ring(0, 1, 1);
        Check.due("8100 by 900", x.times(0, 1, 0), 9);
        Check.due("900 by 8100", x.times(1, 0, 0), 0);
        Check.due("itself", x.times(1, 1, 0), 1);
        x.flight(70, 0, 1);
        Check.due("81000 by 63000", x.times(0, 1, 0), 1);
        Check.due("63000 by 81000", x.times(1, 0, 0), 0);
        Check.due("the SCORCHED ones alone", x.times(0, 1, 1), 9);
        int[][] wrong = {{-1, 0, 0}, {2, 0, 0}, {0, -1, 0}, {0, 2, 0}, {0, 0, 2}, {0, 0, -1}};
        for (int[] w : wrong) {
            Check.due("times that can't be", x.times(w[0], w[1], w[2]), NONE);
        }
    }

    /** 2 to the power of 24 above the cap, 10 to the power of 6 at it, 999,999.9 below it. */
    private static void timesOfManyRings() {
        ColdRing x = new ColdRing();
        Check.text(x, "odds 80");
        Check.text(x, "odds 40");
        Check.text(x, "odds 8");
        for (int f = 0; f < 24; f++) {
            x.flight(60, 0, 6);
        }
        for (int r = 0; r < 6; r++) {
            x.ring(0, r, 9);
        }
        for (int f = 1; f < 24; f++) {
            for (int r = 0; r < 6; r++) {
                x.ring(f, r, NONE);
            }
        }
        Check.due("2 to the power of 6", x.times(0, 1, 0), 64);
        Check.due("10 to the power of 6", x.times(0, 2, 0), 1_000_000);
        x.ring(1, 0, 0);
        Check.due("10 to the power of 6, times 20 by 92", x.times(0, 2, 0), 217391);
        x.ring(1, 0, 1);
        Check.due("above the cap", x.times(0, 2, 0), 1_000_000);
        for (int f = 1; f < 4; f++) {
            for (int r = 0; r < 6; r++) {
                x.ring(f, r, 1);
            }
        }
        Check.due("2 to the power of 24", x.times(0, 1, 0), 1_000_000);
        Check.due("the other way", x.times(1, 0, 0), 0);
    }

    private static void whichRings() {
        ColdRing x = new ColdRing();
        Check.text(x, "odds 50;odds 99 if ring=1");
        Check.text(x, "odds 50;odds 1 if ring=1");
        x.flight(60, 0, 2);
        Check.due("1 by 99", x.times(1, 0, 0), 99);
        x.ring(0, 1, NONE);
        Check.due("LOST RINGS do not count", x.times(1, 0, 0), 1);
        x.ring(0, 1, 3);
        Check.due("99 by 1", x.times(0, 1, 0), 99);
        x.flight(60, 0, 2);
        x.ring(1, 0, 1);
        Check.due("a RING that is not SCORCHED, of a flight that is", x.times(0, 1, 1), 1);
        Check.text(x, "odds 60;odds 90 if worst=0");
        Check.text(x, "odds 60");
        Check.due("worst is 0 for a RING: 10*90*90*10 by 40*60*60*40", x.times(2, 3, 1), 0);
        x.ring(0, 0, 2);
        x.ring(1, 1, 2);
        Check.due("worst is 0 for a RING: 90*90*90*90 by 60*60*60*60", x.times(2, 3, 1), 5);
    }

    private static void likely() {
        ColdRing x = new ColdRing();
        Check.due("no TEXT", x.likely(0), NONE);
        Check.text(x, "odds 20");
        Check.text(x, "odds 30");
        Check.text(x, "odds 60 if warmth<60;odds 5 if warmth>59");
        Check.text(x, "odds 60 if warmth<60;odds 5 if warmth>59");
        Check.due("no flight: the lowest", x.likely(0), 0);
        x.flight(50, 0, 1);
        x.flight(70, 0, 1);
        x.ring(0, 0, 2);
        Check.due("of alike ones the lowest", x.likely(0), 2);
        x.ring(1, 0, 2);
        Check.due("of .04, .09, .03, .03", x.likely(0), 1);
        x.ring(0, 0, 0);
        Check.due("of .16, .21, .02, .02", x.likely(0), 1);
        Check.due("of .2, .3, .05, .05", x.likely(1), 1);
        x.ring(1, 0, 0);
        Check.due("none SCORCHED: the lowest", x.likely(1), 0);
        Check.due("of .64, .49, .38, .38", x.likely(0), 0);
        Check.due("likely(2)", x.likely(2), NONE);
        Check.due("likely(-1)", x.likely(-1), NONE);
    }

    private static void cold() {
        ColdRing x = new ColdRing();
        Check.text(x, "odds 50");
        Check.text(x, "odds 10+ring*10+press");
        Check.text(x, "odds 1");
        Check.text(x, "odds 99");
        coldDue(x, 0, 0, 1, 1, 2);
        coldDue(x, 0, 0, 6, 63, 64);
        coldDue(x, 1, 0, 3, 62, 125);
        coldDue(x, 1, 1, 2, 2969, 10000);
        coldDue(x, 2, 0, 6, 58519850599L, 1000000000000L);
        coldDue(x, 3, 0, 6, 999999999999L, 1000000000000L);
        int[][] wrong = {{-1, 0, 0, 1, 0}, {4, 0, 0, 1, 0}, {0, -41, 0, 1, 0}, {0, 121, 0, 1, 0}, {0, 0, -1, 1, 0},
            {0, 0, 10, 1, 0}, {0, 0, 0, 0, 0}, {0, 0, 0, 7, 0}, {0, 0, 0, 1, 2}, {0, 0, 0, 1, -1}};
        for (int[] w : wrong) {
            Check.due("cold that can't be", x.cold(w[0], w[1], w[2], w[3], w[4]), NONE);
        }
    }

    private static void coldDue(ColdRing x, int text, int press, int rings, long upper, long lower) {
        Check.due("upper of TEXT " + text, x.cold(text, -40, press, rings, 0), upper);
        Check.due("lower of TEXT " + text, x.cold(text, 120, press, rings, 1), lower);
    }
}
