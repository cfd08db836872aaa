import java.math.BigInteger;

/** The bounds that "Terms", III, and promises 11 to 14 name, each at the bound and one step beyond it. */
public final class OddsBoundsTest {
    private static final int NONE = ColdRing.NONE;

    private OddsBoundsTest() {
    }

    public static void main(String[] args) {
        oddsFrom1To99();
        oddsWithout();
        worstIsNothingOfARing();
        oddsArguments();
        scorchAboveNothing();
        lostRingsAreLeftOut();
        lostFlightsAreLeftOut();
        timesIsCut();
        timesAtMost();
        timesOfAllRings();
        timesArguments();
        mostLikelyIsTheLowest();
        likelyWithoutTexts();
        likelyByOne();
        coldInLowestTerms();
        coldOfEachRing();
        coldArguments();
        Check.finish("OddsBoundsTest");
    }

    private static ColdRing withTexts(String... laws) {
        ColdRing x = new ColdRing();
        for (String law : laws) {
            Check.text(x, law);
        }
        return x;
    }

    /** "what "odds" tells, 1 .. 99 (else the nearest)". */
    private static void oddsFrom1To99() {
        int[][] due = {{-1000, 1}, {-1, 1}, {0, 1}, {1, 1}, {2, 2}, {50, 50}, {98, 98}, {99, 99}, {100, 99}, {101, 99},
            {1000, 99}};
        for (int[] d : due) {
            String sum = d[0] < 0 ? "0-" + -d[0] : Integer.toString(d[0]);
            Check.due("odds " + sum, withTexts("odds " + sum).odds(0, 0, 0, 0), d[1]);
        }
        Check.due("the greatest", withTexts("odds 1000*1000*1000").odds(0, 0, 0, 0), 99);
        Check.due("the least", withTexts("odds 0-1000*1000*1000").odds(0, 0, 0, 0), 1);
    }

    /** "50 without". */
    private static void oddsWithout() {
        for (String law : new String[] {"stop", "move 7", "key 7", "odds 7 if 1=2", "odds 1/0", "odds 1000*1000*1000+1"}) {
            Check.due("without, by " + law, withTexts(law).odds(0, 120, 9, 5), 50);
        }
    }

    /** "asked of a RING (worst is 0 then)". */
    private static void worstIsNothingOfARing() {
        ColdRing x = withTexts("odds 10+worst*10", "odds 10");
        x.flight(0, 0, 1);
        x.ring(0, 0, 9);
        Check.due("odds", x.odds(0, 0, 0, 0), 10);
        Check.due("as LIKELY", x.times(0, 1, 0), 1);
        Check.due("as LIKELY", x.times(1, 0, 0), 1);
        Check.due("the lowest", x.likely(0), 0);
    }

    /** "for a RING of a flight as told (0 .. 5; -40 .. 120, 0 .. 9). NONE." */
    private static void oddsArguments() {
        Check.edges("TEXT", 0, 2, NONE, t -> withTexts("stop", "stop", "stop").odds(t, 0, 0, 0));
        Check.edges("WARMTH", -40, 120, NONE, w -> withTexts("stop").odds(0, w, 0, 0));
        Check.edges("PRESS", 0, 9, NONE, p -> withTexts("stop").odds(0, 0, p, 0));
        Check.edges("RING", 0, 5, NONE, r -> withTexts("stop").odds(0, 0, 0, r));
        Check.due("no TEXT", new ColdRing().odds(0, 0, 0, 0), NONE);
        Check.due("warmth", withTexts("odds warmth+41").odds(0, -40, 9, 5), 1);
        Check.due("warmth", withTexts("odds warmth-21").odds(0, 120, 9, 5), 99);
        Check.due("press", withTexts("odds press+1").odds(0, 120, 9, 5), 10);
        Check.due("ring", withTexts("odds ring+1").odds(0, 120, 9, 5), 6);
    }

    /** "each by its ODDS if its SCORCH is above 0, else by 100 less these". */
    private static void scorchAboveNothing() {
        for (int scorch = 0; scorch <= 9; scorch++) {
            ColdRing x = withTexts("odds 90", "odds 30");
            x.flight(0, 0, 1);
            x.ring(0, 0, scorch);
            Check.due("90 by 30, or 10 by 70, by " + scorch, x.times(0, 1, 0), scorch > 0 ? 3 : 0);
            Check.due("30 by 90, or 70 by 10, by " + scorch, x.times(1, 0, 0), scorch > 0 ? 0 : 7);
            Check.due("most LIKELY", x.likely(0), scorch > 0 ? 0 : 1);
        }
    }

    /** "the product of all RINGS (not LOST)". */
    private static void lostRingsAreLeftOut() {
        ColdRing x = withTexts("odds 90", "odds 30");
        x.flight(0, 0, 6);
        for (int r = 0; r < 6; r++) {
            x.ring(0, r, 1);
        }
        int due = 729;
        for (int r = 5; r >= 0; r--) {
            Check.due("3 to the power of " + (r + 1), x.times(0, 1, 0), due);
            x.ring(0, r, NONE);
            due /= 3;
        }
        Check.due("all are LOST", x.times(0, 1, 0), 1);
        Check.due("all are LOST", x.times(1, 0, 0), 1);
    }

    /** "of WHICH flights": KNOWN ones, SCORCHED ones. */
    private static void lostFlightsAreLeftOut() {
        ColdRing x = withTexts("odds 30", "odds 90");
        Check.due("no flight", x.times(0, 1, 0), 1);
        Check.due("no flight", x.times(0, 1, 1), 1);
        x.flight(0, 0, 1);
        Check.due("70 by 10", x.times(0, 1, 0), 7);
        Check.due("it is not SCORCHED", x.times(0, 1, 1), 1);
        x.flight(0, 0, 2);
        x.ring(1, 0, 1);
        Check.due("its RING that is not SCORCHED counts: 30*70 by 90*10", x.times(0, 1, 1), 2);
        Check.due("of both: 70*30*70 by 10*90*10", x.times(0, 1, 0), 16);
        x.ring(0, 0, NONE);
        Check.due("one is LOST", x.times(0, 1, 0), 2);
        x.ring(1, 1, NONE);
        Check.due("30 by 90", x.times(0, 1, 1), 0);
    }

    /** "how many times as LIKELY one is as another one, cut". */
    private static void timesIsCut() {
        int[][] due = {{29, 10, 2}, {30, 10, 3}, {31, 10, 3}, {10, 10, 1}, {9, 10, 0}, {10, 9, 1}, {99, 1, 99}, {1, 99, 0},
            {99, 50, 1}, {98, 49, 2}, {97, 49, 1}};
        for (int[] d : due) {
            ColdRing x = withTexts("odds " + d[0], "odds " + d[1]);
            x.flight(0, 0, 1);
            x.ring(0, 0, 1);
            Check.due(d[0] + " by " + d[1], x.times(0, 1, 0), d[2]);
        }
    }

    private static ColdRing ringByRing(int[] one, int[] other) {
        StringBuilder a = new StringBuilder("stop");
        StringBuilder b = new StringBuilder("stop");
        for (int r = 0; r < one.length; r++) {
            a.append(";odds ").append(one[r]).append(" if ring=").append(r);
            b.append(";odds ").append(other[r]).append(" if ring=").append(r);
        }
        ColdRing x = withTexts(a.toString(), b.toString());
        x.flight(0, 0, one.length);
        for (int r = 0; r < one.length; r++) {
            x.ring(0, r, 9);
        }
        return x;
    }

    /** "1,000,000 at most". */
    private static void timesAtMost() {
        int[][][] due = {
            {{84, 78, 60, 33, 52, 37}, {4, 13, 3, 8, 10, 2}, {999_999}},
            {{85, 82, 19, 98, 85, 56}, {27, 13, 1, 2, 11, 8}, {999_999}},
            {{98, 94, 98, 54, 96}, {6, 1, 1, 15, 52}, {999_998}},
            {{80, 80, 80, 80, 80, 80}, {8, 8, 8, 8, 8, 8}, {1_000_000}},
            {{43, 73, 76, 54, 23, 54}, {2, 5, 20, 2, 4, 10}, {1_000_000}},
            {{65, 39, 94, 96, 27, 34}, {15, 10, 4, 5, 1, 7}, {1_000_000}},
            {{46, 97, 54, 50, 89, 74}, {1, 3, 6, 19, 29, 8}, {1_000_000}},
            {{99, 99, 99, 99, 99, 99}, {1, 1, 1, 1, 1, 1}, {1_000_000}}};
        for (int[][] d : due) {
            ColdRing x = ringByRing(d[0], d[1]);
            Check.due("times", x.times(0, 1, 0), d[2][0]);
            Check.due("times of SCORCHED ones", x.times(0, 1, 1), d[2][0]);
            Check.due("the other way", x.times(1, 0, 0), 0);
        }
    }

    /** As many RINGS as there can be, 144, told exactly. */
    private static void timesOfAllRings() {
        String one = "odds 40+warmth-press*2+ring";
        String other = "odds 38+warmth-press*2+ring*2";
        ColdRing x = withTexts(one, other, "odds 99", "odds 98");
        BigInteger a = BigInteger.ONE;
        BigInteger b = BigInteger.ONE;
        for (int f = 0; f < 24; f++) {
            x.flight(f, f % 10, 6);
            for (int r = 0; r < 6; r++) {
                int scorch = (f * 7 + r * 3) % 4;
                x.ring(f, r, scorch);
                int first = 40 + f - f % 10 * 2 + r;
                int second = 38 + f - f % 10 * 2 + r * 2;
                a = a.multiply(BigInteger.valueOf(scorch > 0 ? first : 100 - first));
                b = b.multiply(BigInteger.valueOf(scorch > 0 ? second : 100 - second));
            }
        }
        BigInteger most = BigInteger.valueOf(1_000_000);
        Check.due("144 RINGS", x.times(0, 1, 0), a.divide(b).min(most).intValue());
        Check.due("144 RINGS, the other way", x.times(1, 0, 0), b.divide(a).min(most).intValue());
        Check.due("most LIKELY of 144 RINGS", x.likely(0), a.compareTo(b) >= 0 ? 0 : 1);
        for (int f = 0; f < 24; f++) {
            for (int r = 0; r < 6; r++) {
                x.ring(f, r, 1);
            }
        }
        Check.due("99 by 98, 144 times over", x.times(2, 3, 0), 4);
        Check.due("98 by 99, 144 times over", x.times(3, 2, 0), 0);
        Check.due("the most LIKELY", x.likely(1), 2);
    }

    /** "TIMES for WHICH flights. NONE." */
    private static void timesArguments() {
        Check.edges("TEXT", 0, 1, NONE, t -> withTexts("stop", "stop").times(t, 0, 0));
        Check.edges("the other TEXT", 0, 1, NONE, t -> withTexts("stop", "stop").times(0, t, 0));
        Check.edges("WHICH", 0, 1, NONE, w -> withTexts("stop").times(0, 0, w));
        Check.due("no TEXT", new ColdRing().times(0, 0, 0), NONE);
    }

    /** "The TEXT that is most LIKELY for WHICH flights (the lowest)". */
    private static void mostLikelyIsTheLowest() {
        ColdRing x = withTexts("odds 20", "odds 30", "odds 30", "odds 20", "odds 30");
        Check.due("no flight: all are alike", x.likely(0), 0);
        Check.due("no flight: all are alike", x.likely(1), 0);
        x.flight(0, 0, 2);
        x.ring(0, 0, 1);
        x.ring(0, 1, 1);
        Check.due("the lowest of three", x.likely(0), 1);
        x.ring(0, 0, 0);
        x.ring(0, 1, 0);
        Check.due("the lowest of two", x.likely(0), 0);
        Check.due("none SCORCHED: all are alike", x.likely(1), 0);
        ColdRing ten = withTexts("odds 1", "odds 2", "odds 3", "odds 4", "odds 5", "odds 6", "odds 7", "odds 8", "odds 9",
            "odds 10");
        ten.flight(0, 0, 1);
        ten.ring(0, 0, 1);
        Check.due("the last of ten", ten.likely(0), 9);
    }

    /** "NONE". */
    private static void likelyWithoutTexts() {
        ColdRing x = new ColdRing();
        Check.due("no TEXT", x.likely(0), NONE);
        Check.due("no TEXT", x.likely(1), NONE);
        Check.text(x, "stop");
        Check.due("one TEXT", x.likely(0), 0);
        Check.edges("WHICH", 0, 1, NONE, w -> withTexts("stop").likely(w));
    }

    /** Compared exactly: products that differ in one RING's hundredth alone. */
    private static void likelyByOne() {
        ColdRing x = withTexts("odds 98", "odds 98;odds 99 if warmth=23 and ring=5", "odds 98;odds 97 if warmth=0 and ring=0");
        for (int f = 0; f < 24; f++) {
            x.flight(f, 0, 6);
            for (int r = 0; r < 6; r++) {
                x.ring(f, r, 1);
            }
        }
        Check.due("by the last RING", x.likely(0), 1);
        Check.due("just as LIKELY, and more", x.times(1, 0, 0), 1);
        Check.due("not quite as LIKELY", x.times(0, 1, 0), 0);
        Check.due("by the first RING", x.times(2, 0, 0), 0);
        Check.due("itself", x.times(2, 2, 0), 1);
    }

    /** "in lowest terms". */
    private static void coldInLowestTerms() {
        for (int odds = 1; odds <= 99; odds++) {
            ColdRing x = withTexts("odds " + odds);
            for (int rings = 1; rings <= 6; rings++) {
                BigInteger all = BigInteger.valueOf(100).pow(rings);
                BigInteger upper = all.subtract(BigInteger.valueOf(100 - odds).pow(rings));
                BigInteger shared = upper.gcd(all);
                Check.due("upper by " + odds, x.cold(0, 0, 0, rings, 0), upper.divide(shared).longValue());
                Check.due("lower by " + odds, x.cold(0, 0, 0, rings, 1), all.divide(shared).longValue());
            }
        }
    }

    /** "1 less the product of what each is not by, in hundredths": each RING has its number. */
    private static void coldOfEachRing() {
        ColdRing x = withTexts("odds 50;odds 20 if ring=5;odds 40 if ring=0", "odds warmth;odds press*10 if press>0");
        Check.due("1 - 6/10", x.cold(0, 0, 0, 1, 0) * 1000 + x.cold(0, 0, 0, 1, 1), 2005);
        Check.due("1 - 6/10 * 1/2", x.cold(0, 0, 0, 2, 0) * 1000 + x.cold(0, 0, 0, 2, 1), 7010);
        Check.due("1 - 6/10 * 1/16 * 8/10", x.cold(0, 0, 0, 6, 0) * 1000 + x.cold(0, 0, 0, 6, 1), 97100);
        Check.due("by warmth", x.cold(1, 25, 0, 1, 0) * 1000 + x.cold(1, 25, 0, 1, 1), 1004);
        Check.due("by press", x.cold(1, 25, 9, 1, 0) * 1000 + x.cold(1, 25, 9, 1, 1), 9010);
        Check.due("the nearest ODDS", x.cold(1, -40, 0, 1, 0) * 1000 + x.cold(1, -40, 0, 1, 1), 1100);
        Check.due("the nearest ODDS", x.cold(1, 120, 0, 1, 0) * 1000 + x.cold(1, 120, 0, 1, 1), 99100);
    }

    /** "upper (part 0), lower number (1) .. NONE". */
    private static void coldArguments() {
        Check.edges("TEXT", 0, 1, NONE, t -> (int) withTexts("stop", "stop").cold(t, 0, 0, 1, 0));
        Check.edges("WARMTH", -40, 120, NONE, w -> (int) withTexts("stop").cold(0, w, 0, 1, 0));
        Check.edges("PRESS", 0, 9, NONE, p -> (int) withTexts("stop").cold(0, 0, p, 1, 0));
        Check.edges("RINGS", 1, 6, NONE, r -> (int) withTexts("stop").cold(0, 0, 0, r, 0));
        Check.edges("part", 0, 1, NONE, p -> (int) withTexts("stop").cold(0, 0, 0, 1, p));
        Check.due("no TEXT", new ColdRing().cold(0, 0, 0, 1, 0), NONE);
    }
}
