/** The bounds that "Terms", IV, and promises 15 to 25 name, each at the bound and one step beyond it. */
public final class FlownBoundsTest {
    private static final int NONE = ColdRing.NONE;

    private FlownBoundsTest() {
    }

    public static void main(String[] args) {
        saysNotAbove();
        saysWorstAboveOne();
        saysOfNoneAndOfAll();
        saysOfFullRows();
        saysArguments();
        mostPoints();
        pointBounds();
        laterPointCounts();
        betweenTwoNextToOneAnother();
        belowAllAboveAll();
        tenthsArguments();
        comesBackInTenths();
        lateArguments();
        beyondWhatWasFlown();
        beyondWithoutKnown();
        heldByMoreThanMargin();
        heldOnesDoNotCount();
        heldWithoutOneAhead();
        neededAndNeedless();
        lineUpToIt();
        slipsIfHigher();
        slipArguments();
        pictureLesserFirst();
        pictureAlikeOnes();
        pictureArguments();
        badAboveWhich();
        noMoreThanOneChange();
        bestOfAlikeOnes();
        bestWithoutTexts();
        Check.finish("FlownBoundsTest");
    }

    /** A FLIGHT with one RING for each pair of WARMTH and SCORCH. */
    private static ColdRing flown(int... warmthsAndScorches) {
        ColdRing x = new ColdRing();
        for (int i = 0; i < warmthsAndScorches.length; i += 2) {
            int f = x.flight(warmthsAndScorches[i], 0, 1);
            x.ring(f, 0, warmthsAndScorches[i + 1]);
        }
        return x;
    }

    private static void saysDue(ColdRing x, int which, int ways, int all) {
        Check.due("ways for " + which, x.says(which, 0), ways);
        Check.due("of how many for " + which, x.says(which, 1), all);
    }

    /** "together not above those of the SCORCHED ones". */
    private static void saysNotAbove() {
        saysDue(flown(20, 1, 19, 0), 0, 2, 2);
        saysDue(flown(20, 1, 20, 0), 0, 2, 2);
        saysDue(flown(20, 1, 21, 0), 0, 1, 2);
        saysDue(flown(20, 1, 19, 0, 20, 0, 21, 0), 0, 3, 4);
        saysDue(flown(20, 1, 30, 1, 25, 0, 24, 0), 0, 4, 6);
        saysDue(flown(20, 1, 30, 1, 25, 0, 25, 0), 0, 4, 6);
        saysDue(flown(20, 1, 30, 1, 25, 0, 26, 0), 0, 3, 6);
        saysDue(flown(-40, 1, 120, 0), 0, 1, 2);
        saysDue(flown(120, 1, -40, 0), 0, 2, 2);
        saysDue(flown(-40, 1, -40, 0, -40, 0), 0, 3, 3);
        saysDue(flown(-10, 1, -10, 1, 10, 0, -30, 0), 0, 4, 6);
        saysDue(flown(20, 1, 19, 0, 0, NONE, 20, NONE), 0, 2, 2);
    }

    /** "for WHICH 1 likewise of the SCORCHED ones, as many as have WORST above 1". */
    private static void saysWorstAboveOne() {
        saysDue(flown(20, 1, 19, 1), 1, 1, 1);
        saysDue(flown(20, 2, 19, 1), 1, 2, 2);
        saysDue(flown(20, 2, 20, 1), 1, 2, 2);
        saysDue(flown(20, 2, 21, 1), 1, 1, 2);
        saysDue(flown(20, 2, 19, 0), 1, 1, 1);
        saysDue(flown(20, 2, 19, NONE), 1, 1, 1);
        saysDue(flown(20, 9, 21, 2, 19, 1), 1, 3, 3);
        saysDue(flown(20, 9, 21, 1, 19, 1, 0, 0), 1, 2, 3);
    }

    /** None that is chosen, and all: one way of one. */
    private static void saysOfNoneAndOfAll() {
        saysDue(flown(), 0, 1, 1);
        saysDue(flown(), 1, 1, 1);
        saysDue(flown(5, 0), 0, 1, 1);
        saysDue(flown(5, 0), 1, 1, 1);
        saysDue(flown(5, 1), 0, 1, 1);
        saysDue(flown(5, 1), 1, 1, 1);
        saysDue(flown(5, 2), 1, 1, 1);
        saysDue(flown(5, NONE), 0, 1, 1);
        saysDue(flown(5, NONE), 1, 1, 1);
        saysDue(flown(5, 1, 9, 1, -3, 1), 0, 1, 1);
    }

    /** 24 FLIGHTS at the ends of all WARMTHS, as many SCORCHED as there can be ways. */
    private static void saysOfFullRows() {
        for (int scorched : new int[] {1, 11, 12, 13, 23}) {
            ColdRing warm = new ColdRing();
            ColdRing cold = new ColdRing();
            long all = 1;
            for (int i = 1; i <= scorched; i++) {
                all = all * (24 - scorched + i) / i;
            }
            for (int f = 0; f < 24; f++) {
                warm.flight(f < scorched ? 120 : -40, 0, 1);
                cold.flight(f < scorched ? -40 : 120, 0, 1);
                warm.ring(f, 0, f < scorched ? 2 : 0);
                cold.ring(f, 0, f < scorched ? 2 : 1);
            }
            saysDue(warm, 0, (int) all, (int) all);
            saysDue(cold, 1, 1, (int) all);
            saysDue(cold, 0, 1, 1);
        }
    }

    /** "how many ways (part 0), of how many (1). NONE." */
    private static void saysArguments() {
        Check.edges("WHICH", 0, 1, NONE, w -> flown(5, 1).says(w, 0));
        Check.edges("part", 0, 1, NONE, p -> flown(5, 1).says(0, p));
    }

    /** "POINTS, 12 at most"; -5. */
    private static void mostPoints() {
        ColdRing x = new ColdRing();
        for (int i = 1; i <= 12; i++) {
            Check.granted("point " + i, x, x.point(i, i), i);
        }
        Check.refused("the 13th", x, x.point(13, 13), -5);
        Check.refused("the 13th, colder", x, x.point(0, 13), -5);
        Check.refused("-1 ahead of -5", x, x.point(13, 601), -1);
        Check.due("POINTS", x.count(2), 12);
        Check.due("the 13th does not count", x.tenths(13, 0), NONE);
        for (int i = 1; i <= 12; i++) {
            Check.granted("told again", x, x.point(i, 100 + i), 12);
            Check.due("the later one", x.tenths(i, 0), 100 + i);
        }
        Check.due("REFUSED by -5", x.count(12), 2);
    }

    /** "at a WARMTH .. TENTHS 0 .. 600"; -1. */
    private static void pointBounds() {
        Check.edges("WARMTH", -40, 120, -1, w -> new ColdRing().point(w, 0));
        Check.edges("TENTHS", 0, 600, -1, t -> new ColdRing().point(0, t));
        ColdRing x = new ColdRing();
        Check.refused("can't be", x, x.point(0, 601), -1);
        Check.due("none comes", x.count(2), 0);
        Check.granted("the most", x, x.point(0, 600), 1);
        Check.refused("told again as can't be", x, x.point(0, -1), -1);
        Check.due("it stays", x.tenths(0, 0), 600);
    }

    /** "(told again: the later one counts)". */
    private static void laterPointCounts() {
        ColdRing x = new ColdRing();
        Check.due("one", x.point(10, 5), 1);
        Check.due("the same", x.point(10, 7), 1);
        Check.due("its neighbour above", x.point(11, 9), 2);
        Check.due("its neighbour below", x.point(9, 3), 3);
        Check.due("the same", x.point(10, 0), 3);
        spanDue(x, 9, 3, 3);
        spanDue(x, 10, 0, 0);
        spanDue(x, 11, 9, 9);
    }

    private static void spanDue(ColdRing x, int warmth, int least, int most) {
        Check.due("least at " + warmth, x.tenths(warmth, 0), least);
        Check.due("most at " + warmth, x.tenths(warmth, 1), most);
    }

    /** "At a POINT it is that; between two next to one another it lies from the lesser to the greater of them". */
    private static void betweenTwoNextToOneAnother() {
        ColdRing x = new ColdRing();
        x.point(40, 8);
        x.point(20, 3);
        x.point(30, 600);
        x.point(10, 3);
        spanDue(x, 10, 3, 3);
        spanDue(x, 11, 3, 3);
        spanDue(x, 19, 3, 3);
        spanDue(x, 20, 3, 3);
        spanDue(x, 21, 3, 600);
        spanDue(x, 29, 3, 600);
        spanDue(x, 30, 600, 600);
        spanDue(x, 31, 8, 600);
        spanDue(x, 39, 8, 600);
        spanDue(x, 40, 8, 8);
    }

    /** "below all, above all it is BEYOND". */
    private static void belowAllAboveAll() {
        ColdRing x = new ColdRing();
        spanDue(x, 0, NONE, NONE);
        Check.due("no POINT", x.late(0), 3);
        x.point(10, 0);
        spanDue(x, 9, NONE, NONE);
        spanDue(x, 10, 0, 0);
        spanDue(x, 11, NONE, NONE);
        x.point(12, 0);
        spanDue(x, 9, NONE, NONE);
        spanDue(x, 11, 0, 0);
        spanDue(x, 13, NONE, NONE);
        Check.due("just below", x.late(9), 3);
        Check.due("at the least", x.late(10), 0);
        Check.due("at the greatest", x.late(12), 0);
        Check.due("just above", x.late(13), 3);
        x.point(-40, 1);
        x.point(120, 2);
        spanDue(x, -40, 1, 1);
        spanDue(x, -41, NONE, NONE);
        spanDue(x, 120, 2, 2);
        spanDue(x, 121, NONE, NONE);
        spanDue(x, -39, 0, 1);
        spanDue(x, 119, 0, 2);
    }

    /** "the least (what 0), the most (1)". */
    private static void tenthsArguments() {
        Check.edges("what", 0, 1, NONE, what -> {
            ColdRing x = new ColdRing();
            x.point(0, 5);
            return x.tenths(0, what);
        });
        Check.edges("WARMTH", -40, 120, NONE, w -> {
            ColdRing x = new ColdRing();
            x.point(-40, 5);
            x.point(120, 5);
            return x.tenths(w, 0);
        });
    }

    /** "Whether a ring comes back in TENTHS: 0 it does, 1 perhaps, 2 it does not". */
    private static void comesBackInTenths() {
        ColdRing x = new ColdRing();
        x.point(10, 20);
        x.point(30, 30);
        int[][] due = {{0, 2, 2, 2}, {19, 2, 2, 2}, {20, 0, 1, 2}, {21, 0, 1, 2}, {29, 0, 1, 2}, {30, 0, 0, 0},
            {31, 0, 0, 0}, {600, 0, 0, 0}};
        for (int[] d : due) {
            x.terms(0, d[0]);
            Check.due("20 in " + d[0], x.late(10), d[1]);
            Check.due("20 to 30 in " + d[0], x.late(20), d[2]);
            Check.due("30 in " + d[0], x.late(30), d[3]);
        }
        ColdRing first = new ColdRing();
        first.point(0, 6);
        first.point(1, 7);
        Check.due("6 in 6, as at first", first.late(0), 0);
        Check.due("7 in 6, as at first", first.late(1), 2);
        first.point(0, 600);
        first.terms(0, 599);
        Check.due("600 in 599", first.late(0), 2);
        first.terms(0, 600);
        Check.due("600 in 600", first.late(0), 0);
        first.point(0, 0);
        first.terms(0, 0);
        Check.due("0 in 0", first.late(0), 0);
    }

    /** "NONE": a WARMTH that can't be, even with all POINTS. */
    private static void lateArguments() {
        Check.edges("WARMTH", -40, 120, NONE, w -> new ColdRing().late(w));
        Check.due("in the cold without a POINT", new ColdRing().late(-40), 3);
        Check.due("in the heat without a POINT", new ColdRing().late(120), 3);
    }

    /** "how far a WARMTH is below the least, above the greatest WARMTH of KNOWN flights; 0 between". */
    private static void beyondWhatWasFlown() {
        ColdRing x = flown(20, 0, 60, 3, -40, NONE, 120, NONE);
        int[][] due = {{-40, 60}, {18, 2}, {19, 1}, {20, 0}, {21, 0}, {59, 0}, {60, 0}, {61, 1}, {62, 2}, {120, 60}};
        for (int[] d : due) {
            Check.due("beyond(" + d[0] + ")", x.beyond(d[0]), d[1]);
        }
        Check.due("the farthest", flown(120, 0).beyond(-40), 160);
        Check.due("the farthest", flown(-40, 0).beyond(120), 160);
        Check.due("at the one", flown(-40, 0).beyond(-40), 0);
        Check.edges("WARMTH", -40, 120, NONE, w -> flown(0, 0).beyond(w));
    }

    /** "NONE (no KNOWN flight, too)". */
    private static void beyondWithoutKnown() {
        Check.due("no flight", flown().beyond(0), NONE);
        Check.due("LOST ones alone", flown(0, NONE, 5, NONE).beyond(0), NONE);
        Check.due("one that is KNOWN", flown(0, NONE, 5, 0).beyond(0), 5);
    }

    private static int heldBy(ColdRing x, int margin, int what) {
        x.terms(3, margin);
        return x.held(what);
    }

    /** "BEYOND by more than MARGIN". */
    private static void heldByMoreThanMargin() {
        for (int margin : new int[] {0, 1, 7, 98, 99}) {
            Check.due("by MARGIN, above", heldBy(flown(0, 0, margin, 0), margin, 0), 0);
            Check.due("by one more, above", heldBy(flown(0, 0, margin + 1, 0), margin, 0), 1);
            Check.due("by MARGIN, below", heldBy(flown(99, 0, 99 - margin, 0), margin, 0), 0);
            Check.due("by one more, below", heldBy(flown(99, 0, 98 - margin, 0), margin, 0), 1);
        }
        Check.due("between", heldBy(flown(0, 0, 9, 0, 5, 0), 8, 0), 1);
        Check.due("between two that were not HELD", heldBy(flown(0, 0, 9, 0, 5, 0, 9, 0, 0, 0), 9, 0), 0);
        Check.due("the same WARMTH", heldBy(flown(7, 0, 7, 0, 7, 0), 0, 0), 0);
    }

    /** "by the KNOWN ones ahead of it that were not HELD". */
    private static void heldOnesDoNotCount() {
        Check.due("a HELD one does not widen", heldBy(flown(0, 0, 10, 0, 10, 0, 11, 0), 5, 0), 3);
        Check.due("one that was not HELD does", heldBy(flown(0, 0, 5, 0, 10, 0, 15, 0), 5, 0), 0);
        Check.due("to either side", heldBy(flown(0, 0, 5, 0, -5, 0, 11, 0, -11, 0, 10, 0, -10, 0), 5, 0), 2);
        Check.due("a LOST one does not widen", heldBy(flown(0, 0, 5, NONE, 10, 0), 5, 0), 1);
        Check.due("a LOST one is not HELD", heldBy(flown(0, 0, 100, NONE), 5, 0), 0);
    }

    /** "(if there is one)". */
    private static void heldWithoutOneAhead() {
        Check.due("none", flown().held(0), 0);
        Check.due("the first", flown(120, 0).held(0), 0);
        Check.due("the first that is KNOWN", flown(-40, NONE, 120, 5).held(0), 0);
        Check.due("the second that is KNOWN", flown(-40, NONE, 120, 5, 119, 0).held(0), 1);
    }

    /** "NEEDED, if it is SCORCHED, NEEDLESS else"; "NONE". */
    private static void neededAndNeedless() {
        ColdRing x = flown(0, 0, 50, 0, 60, 1, -9, 9, 0, 5);
        Check.due("HELD", x.held(0), 3);
        Check.due("NEEDED", x.held(1), 2);
        Check.due("NEEDLESS", x.held(2), 1);
        Check.edges("what", 0, 2, NONE, what -> flown(0, 0, 50, 0).held(what));
    }

    /** "behind a FLIGHT the greatest WORST of all KNOWN ones up to it (0 without one)". */
    private static void lineUpToIt() {
        ColdRing x = flown(0, NONE, 0, 0, 0, 4, 0, 3, 0, NONE, 0, 5);
        int[] due = {0, 0, 4, 4, 4, 5};
        for (int f = 0; f < 6; f++) {
            Check.due("line(" + f + ")", x.line(f), due[f]);
        }
        Check.edges("FLIGHT", 0, 5, NONE, f -> flown(0, 1, 0, 1, 0, 1, 0, 1, 0, 1, 0, 1).line(f));
        Check.due("no FLIGHT", flown().line(0), NONE);
    }

    /** "if it is higher behind it than ahead of it (0 ahead of the first)". */
    private static void slipsIfHigher() {
        slipsDue(flown(0, 0));
        slipsDue(flown(0, 1), 0);
        slipsDue(flown(0, NONE, 0, 1), 1);
        slipsDue(flown(0, 1, 0, 1), 0);
        slipsDue(flown(0, 2, 0, 1, 0, 2, 0, 3), 0, 3);
        slipsDue(flown(0, 1, 0, 2, 0, 3, 0, 4, 0, 5, 0, 6, 0, 7, 0, 8, 0, 9, 0, 9), 0, 1, 2, 3, 4, 5, 6, 7, 8);
        slipsDue(flown());
    }

    private static void slipsDue(ColdRing x, int... want) {
        Check.due("how many", x.slip(NONE), want.length);
        for (int i = 0; i < want.length; i++) {
            Check.due("slip(" + i + ")", x.slip(i), want[i]);
        }
        Check.due("behind the last", x.slip(want.length), NONE);
    }

    /** "(i NONE: how many). NONE." */
    private static void slipArguments() {
        ColdRing x = flown(0, 1, 0, 2);
        Check.due("i NONE", x.slip(-1), 2);
        Check.due("i -2", x.slip(-2), NONE);
        Check.due("i 0", x.slip(0), 0);
        Check.due("i 1", x.slip(1), 1);
        Check.due("i 2", x.slip(2), NONE);
        Check.due("far off", x.slip(Integer.MAX_VALUE), NONE);
        Check.due("far off", x.slip(Integer.MIN_VALUE), NONE);
        Check.due("none of none", flown().slip(NONE), 0);
        Check.due("the first of none", flown().slip(0), NONE);
    }

    private static void orderDue(ColdRing x, String law, int... want) {
        int text = Check.text(x, law);
        for (int i = 0; i < want.length; i++) {
            Check.due(law + ", " + i, x.picture(text, 0, i), want[i]);
        }
        Check.due(law + ", behind the last", x.picture(text, 0, want.length), NONE);
        Check.due(law + ", how many", x.seen(text, 0, 0), want.length);
    }

    /** "in the order of what "key" tells of each (0 without), the lesser first". */
    private static void pictureLesserFirst() {
        ColdRing x = flown(10, 0, 11, 0, 9, 0);
        orderDue(x, "key warmth", 2, 0, 1);
        orderDue(x, "key 0-warmth", 1, 0, 2);
        orderDue(x, "key 1 if warmth=10", 1, 2, 0);
        orderDue(x, "key 0-1 if warmth=11", 1, 0, 2);
        orderDue(x, "key 1/0 if warmth=10;key 1000*1000*1000 if warmth=11;key 0-1000*1000*1000 if warmth=9", 2, 0, 1);
        orderDue(x, "key 1000*1000*1000-warmth", 1, 0, 2);
        orderDue(x, "key 0", 0, 1, 2);
    }

    /** "of alike ones the lower number". */
    private static void pictureAlikeOnes() {
        ColdRing x = flown(5, 0, 4, 0, 5, 0, 4, 0, 5, 0, 3, 0);
        orderDue(x, "key warmth", 5, 1, 3, 0, 2, 4);
        orderDue(x, "key 0-warmth", 0, 2, 4, 1, 3, 5);
        orderDue(x, "stop", 0, 1, 2, 3, 4, 5);
        ColdRing full = new ColdRing();
        int[] want = new int[24];
        for (int f = 0; f < 24; f++) {
            full.flight(23 - f, 0, 1);
            want[23 - f] = f;
        }
        orderDue(full, "key warmth", want);
    }

    /** "The i-th flight of a PICTURE; NONE." */
    private static void pictureArguments() {
        Check.edges("i", 0, 2, NONE, i -> withKey(flown(1, 1, 2, 1, 3, 1)).picture(0, 0, i));
        Check.edges("TEXT", 0, 0, NONE, t -> withKey(flown(1, 1)).picture(t, 0, 0));
        Check.edges("WHICH", 0, 1, NONE, w -> withKey(flown(1, 1)).picture(0, w, 0));
        Check.edges("TEXT of seen", 0, 0, NONE, t -> withKey(flown(1, 1)).seen(t, 0, 0));
        Check.edges("what of seen", 0, 2, NONE, what -> withKey(flown(1, 1)).seen(0, 0, what));
        Check.due("no flight", withKey(flown()).picture(0, 0, 0), NONE);
        Check.due("no SCORCHED flight", withKey(flown(1, 0)).picture(0, 1, 0), NONE);
        for (int what = 0; what < 3; what++) {
            Check.due("seen of no flight", withKey(flown()).seen(0, 0, what), 0);
            Check.due("seen of no SCORCHED flight", withKey(flown(1, 0)).seen(0, 1, what), 0);
        }
        Check.due("no TEXT", flown(1, 1).picture(0, 0, 0), NONE);
        Check.due("no TEXT", flown(1, 1).seen(0, 0, 0), NONE);
    }

    private static ColdRing withKey(ColdRing x) {
        Check.text(x, "key warmth");
        return x;
    }

    /** "For WHICH 0 BAD are the SCORCHED ones, for 1 those with WORST above 1". */
    private static void badAboveWhich() {
        int[][] due = {{0, 0, 0}, {0, 1, 1}, {0, 2, 1}, {1, 1, 0}, {1, 2, 0}, {2, 2, 0}};
        for (int[] d : due) {
            Check.due(d[0] + ", " + d[1] + " for 0", withKey(flown(1, d[0], 2, d[1])).seen(0, 0, 1), d[2]);
        }
        int[][] ofScorched = {{1, 1, 0}, {1, 2, 1}, {2, 1, 1}, {2, 2, 0}, {9, 2, 0}, {1, 9, 1}};
        for (int[] d : ofScorched) {
            Check.due(d[0] + ", " + d[1] + " for 1", withKey(flown(1, d[0], 2, d[1])).seen(0, 1, 1), d[2]);
        }
        Check.due("one that is not SCORCHED between", withKey(flown(1, 2, 2, 0, 3, 2)).seen(0, 1, 1), 0);
        Check.due("one that is LOST between", withKey(flown(1, 2, 2, NONE, 3, 2)).seen(0, 0, 1), 0);
    }

    /** "the fewest that must go so that there is no more than one CHANGE", against all ways to take some out. */
    private static void noMoreThanOneChange() {
        for (int many = 0; many <= 8; many++) {
            for (int bad = 0; bad < 1 << many; bad++) {
                ColdRing x = new ColdRing();
                Check.text(x, "key 0");
                for (int f = 0; f < many; f++) {
                    x.flight(0, 0, 1);
                    x.ring(f, 0, bad >> f & 1);
                }
                Check.due("CHANGES", x.seen(0, 0, 1), changes(bad, (1 << many) - 1));
                Check.due("TAKEN OUT", x.seen(0, 0, 2), fewestOut(bad, many));
            }
        }
    }

    private static int changes(int bad, int stay) {
        int changes = 0;
        int last = -1;
        for (int i = 0; i < 8; i++) {
            if ((stay >> i & 1) == 1) {
                int now = bad >> i & 1;
                changes += last >= 0 && last != now ? 1 : 0;
                last = now;
            }
        }
        return changes;
    }

    private static int fewestOut(int bad, int many) {
        int fewest = many;
        for (int stay = 0; stay < 1 << many; stay++) {
            if (changes(bad, stay) <= 1) {
                fewest = Math.min(fewest, many - Integer.bitCount(stay));
            }
        }
        return fewest;
    }

    /** "the fewest CHANGES, of alike ones the fewest TAKEN OUT, then the lowest number". */
    private static void bestOfAlikeOnes() {
        // by number ##...##, so 2 CHANGES, 2 TAKEN OUT
        ColdRing x = flown(0, 1, 2, 1, 3, 0, 4, 0, 5, 0, 1, 1, 6, 1);
        Check.text(x, "key 0");
        Check.due("the only one", x.best(0), 0);
        Check.text(x, "key 0");
        Check.due("alike in both: the lowest", x.best(0), 0);
        Check.text(x, "key warmth");
        Check.due("as many CHANGES, fewer TAKEN OUT", x.seen(2, 0, 1) * 10 + x.seen(2, 0, 2), 21);
        Check.due("the fewer TAKEN OUT", x.best(0), 2);
        Check.text(x, "key 0-warmth");
        Check.due("the lowest of those", x.best(0), 2);
        Check.text(x, "key worst");
        Check.due("the fewest CHANGES", x.best(0), 4);
        Check.text(x, "key 0-worst");
        Check.due("the lowest of those", x.best(0), 4);
        Check.due("of the SCORCHED alone all are alike", x.best(1), 0);
    }

    /** "NONE". */
    private static void bestWithoutTexts() {
        Check.due("no TEXT", flown(1, 1).best(0), NONE);
        Check.due("no TEXT", flown(1, 1).best(1), NONE);
        Check.due("no flight", withKey(flown()).best(0), 0);
        Check.edges("WHICH", 0, 1, NONE, w -> withKey(flown(1, 1)).best(w));
    }
}
