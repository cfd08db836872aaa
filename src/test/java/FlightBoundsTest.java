/** The bounds that "Terms", I, and promises 1 to 8 name, each at the bound and one step beyond it. */
public final class FlightBoundsTest {
    private static final int NONE = ColdRing.NONE;
    private static final int NOTHING = -1000;

    private FlightBoundsTest() {
    }

    public static void main(String[] args) {
        mostFlights();
        warmthPressRings();
        ringsOfEachFlight();
        scorches();
        worstAboveNothing();
        lostIfAllAre();
        whichFlights();
        termsAtFirst();
        termsBounds();
        termsKeepWhatWas();
        ofEveryWhat();
        feedsUpTo400();
        bytesHighestFirst();
        endsWithinTheTape();
        shortsOfARow();
        rowEndsWithinAShort();
        rowFillsUpTo24();
        rowPressRings();
        rowOfAnEmptyTape();
        rowLeavesTheTape();
        Check.finish("FlightBoundsTest");
    }

    private static ColdRing flights(int many) {
        ColdRing x = new ColdRing();
        for (int f = 0; f < many; f++) {
            x.flight(f, 1, 2);
        }
        return x;
    }

    /** "FLIGHTS 0 .. 23 (24 at most)"; -5 no room. */
    private static void mostFlights() {
        ColdRing x = flights(23);
        Check.due("23 FLIGHTS", x.count(0), 23);
        Check.due("there is no FLIGHT 23 yet", x.of(23, 0), NOTHING);
        Check.granted("the 24th", x, x.flight(-40, 0, 1), 23);
        Check.refused("the 25th", x, x.flight(-40, 0, 1), -5);
        Check.due("24 FLIGHTS", x.count(0), 24);
        Check.due("the 24th stays", x.of(23, 0), -40);
        Check.due("there is no FLIGHT 24", x.of(24, 0), NOTHING);
        Check.refused("-1 ahead of -5", x, x.flight(121, 0, 1), -1);
        Check.refused("RING of FLIGHT 24", x, x.ring(24, 0, 1), -2);
        Check.granted("RING of FLIGHT 23", x, x.ring(23, 0, 1), 0);
    }

    /** "WARMTH -40 .. 120, PRESS 0 .. 9, RINGS 0 .. n - 1 (n 1 .. 6)". */
    private static void warmthPressRings() {
        Check.edges("WARMTH", -40, 120, -1, n -> new ColdRing().flight(n, 0, 1));
        Check.edges("PRESS", 0, 9, -1, n -> new ColdRing().flight(0, n, 1));
        Check.edges("RINGS", 1, 6, -1, n -> new ColdRing().flight(0, 0, n));
        for (int n : new int[] {-40, -39, -1, 0, 1, 119, 120}) {
            ColdRing x = new ColdRing();
            x.flight(n, 9, 6);
            Check.due("its WARMTH", x.of(0, 0), n);
            Check.due("its PRESS", x.of(0, 1), 9);
            Check.due("its RINGS", x.of(0, 2), 6);
        }
        ColdRing x = new ColdRing();
        Check.refused("a flight that can't be", x, x.flight(121, 0, 1), -1);
        Check.due("none comes", x.count(0), 0);
        Check.granted("the first", x, x.flight(120, 0, 1), 0);
    }

    /** "RINGS 0 .. n - 1": -2 there is no such RING. */
    private static void ringsOfEachFlight() {
        for (int n = 1; n <= 6; n++) {
            ColdRing x = new ColdRing();
            x.flight(50, 5, 6);
            x.flight(60, 5, n);
            x.flight(70, 5, 6);
            Check.refused("RING -1 of " + n, x, x.ring(1, -1, 9), -2);
            Check.granted("RING 0 of " + n, x, x.ring(1, 0, 3), 0);
            Check.granted("RING " + (n - 1) + " of " + n, x, x.ring(1, n - 1, 4), n == 1 ? 3 : 0);
            Check.refused("RING " + n + " of " + n, x, x.ring(1, n, 9), -2);
            Check.refused("no RING", x, x.ring(1, Integer.MAX_VALUE, 9), -2);
            Check.refused("no RING", x, x.ring(1, Integer.MIN_VALUE, 9), -2);
            Check.due("WORST", x.of(1, 3), 4);
            Check.due("its neighbours", x.of(0, 3) + x.of(2, 3), 0);
            Check.due("REFUSED by -2", x.count(10), 4);
        }
        Check.edges("FLIGHT of ring", 0, 2, -2, f -> flights(3).ring(f, 0, 1));
        ColdRing none = new ColdRing();
        Check.refused("no FLIGHT at all", none, none.ring(0, 0, 0), -2);
    }

    /** "each with SCORCH 0 .. 9 (0 at first), or LOST"; "NONE: it is LOST". */
    private static void scorches() {
        Check.edges("SCORCH", -1, 9, -1, s -> flights(1).ring(0, 0, s));
        ColdRing x = flights(1);
        int was = 0;
        for (int s : new int[] {NONE, 0, NONE, 9, NONE, NONE, 1, 9, 9, 0, 0}) {
            Check.granted("SCORCH " + s, x, x.ring(0, 1, s), was);
            was = s;
        }
        x.ring(0, 1, 5);
        Check.refused("SCORCH 10", x, x.ring(0, 1, 10), -1);
        Check.refused("SCORCH -2", x, x.ring(0, 1, -2), -1);
        Check.refused("-1 ahead of -2, no FLIGHT", x, x.ring(1, 0, 10), -1);
        Check.refused("-1 ahead of -2, no RING", x, x.ring(0, 2, -2), -1);
        Check.granted("it stays", x, x.ring(0, 1, 5), 5);
        Check.due("REFUSED by -1", x.count(9), 4);
        Check.due("REFUSED by -2", x.count(10), 0);
    }

    /** "WORST is the greatest SCORCH of its RINGS that are not LOST; it is SCORCHED, if that is above 0". */
    private static void worstAboveNothing() {
        ColdRing x = new ColdRing();
        x.flight(0, 0, 6);
        for (int s = 0; s <= 9; s++) {
            x.ring(0, 5, s);
            Check.due("WORST by the last RING", x.of(0, 3), s);
            Check.due("SCORCHED by " + s, x.of(0, 4), s > 0 ? 1 : 0);
            Check.due("SCORCHED ones", x.count(7), s > 0 ? 1 : 0);
            Check.due("KNOWN ones", x.count(6), 1);
        }
        x.ring(0, 0, 8);
        Check.due("9 and 8", x.of(0, 3), 9);
        x.ring(0, 5, NONE);
        Check.due("the 9 is LOST", x.of(0, 3), 8);
        x.ring(0, 0, 0);
        Check.due("none is left", x.of(0, 3), 0);
        Check.due("it is not SCORCHED", x.of(0, 4), 0);
    }

    /** "LOST, if all its RINGS are; KNOWN else". */
    private static void lostIfAllAre() {
        for (int n = 1; n <= 6; n++) {
            ColdRing x = new ColdRing();
            x.flight(0, 0, n);
            for (int r = 0; r < n; r++) {
                Check.due("LOST RINGS " + r + " of " + n, x.of(0, 5), 0);
                Check.due("it is KNOWN", x.count(6), 1);
                x.ring(0, r, NONE);
            }
            Check.due("all LOST of " + n, x.of(0, 5), 1);
            Check.due("it is not SCORCHED", x.of(0, 4), 0);
            Check.due("it is not KNOWN", x.count(6), 0);
            Check.due("it is a FLIGHT still", x.count(0), 1);
            x.ring(0, n - 1, 0);
            Check.due("one is not LOST any more", x.of(0, 5), 0);
            Check.due("it is KNOWN again", x.count(6), 1);
        }
    }

    /** "WHICH flights: 0 all that are KNOWN, 1 the SCORCHED ones alone". */
    private static void whichFlights() {
        Check.edges("WHICH of times", 0, 1, NONE, w -> withText().times(0, 0, w));
        Check.edges("WHICH of likely", 0, 1, NONE, w -> withText().likely(w));
        Check.edges("WHICH of says", 0, 1, NONE, w -> withText().says(w, 0));
        Check.edges("WHICH of picture", 0, 1, NONE, w -> withText().picture(0, w, 0));
        Check.edges("WHICH of seen", 0, 1, NONE, w -> withText().seen(0, w, 0));
        Check.edges("WHICH of best", 0, 1, NONE, w -> withText().best(w));
        ColdRing x = new ColdRing();
        Check.text(x, "key 0");
        int[] scorch = {0, 1, NONE, 2};
        for (int f = 0; f < 4; f++) {
            x.flight(0, 0, 1);
            x.ring(f, 0, scorch[f]);
        }
        Check.due("KNOWN ones", x.seen(0, 0, 0), 3);
        Check.due("SCORCHED ones", x.seen(0, 1, 0), 2);
    }

    private static ColdRing withText() {
        ColdRing x = flights(2);
        x.ring(0, 0, 2);
        Check.text(x, "odds 10");
        return x;
    }

    /** "TERMS: 0 TENTHS (6 at first), 1 NEED (1), 2 HURRY (0), 3 MARGIN (0)". */
    private static void termsAtFirst() {
        int[] first = {6, 1, 0, 0};
        for (int what = 0; what < 4; what++) {
            ColdRing x = new ColdRing();
            Check.granted("TERM " + what, x, x.terms(what, 1), first[what]);
        }
    }

    /** "0 .. 600", "1 .. 12", "0 .. 100", "0 .. 99"; -1 a number that can't be. */
    private static void termsBounds() {
        Check.edges("TENTHS", 0, 600, -1, v -> new ColdRing().terms(0, v));
        Check.edges("NEED", 1, 12, -1, v -> new ColdRing().terms(1, v));
        Check.edges("HURRY", 0, 100, -1, v -> new ColdRing().terms(2, v));
        Check.edges("MARGIN", 0, 99, -1, v -> new ColdRing().terms(3, v));
        Check.edges("TERM", 0, 3, -1, what -> new ColdRing().terms(what, 1));
    }

    /** "A TERM: what it was"; a refused call leaves it. */
    private static void termsKeepWhatWas() {
        int[][] bounds = {{0, 600}, {1, 12}, {0, 100}, {0, 99}};
        for (int what = 0; what < 4; what++) {
            ColdRing x = new ColdRing();
            x.terms(what, bounds[what][1]);
            Check.refused("above TERM " + what, x, x.terms(what, bounds[what][1] + 1), -1);
            Check.granted("the most of TERM " + what, x, x.terms(what, bounds[what][0]), bounds[what][1]);
            Check.refused("below TERM " + what, x, x.terms(what, bounds[what][0] - 1), -1);
            Check.granted("the least of TERM " + what, x, x.terms(what, 1), bounds[what][0]);
            Check.due("REFUSED by -1", x.count(9), 2);
            for (int other = 0; other < 4; other++) {
                if (other != what) {
                    Check.due("TERM " + other + " stays", x.terms(other, 1), other == 0 ? 6 : other == 1 ? 1 : 0);
                }
            }
        }
    }

    /** "NOTHING (-1000) without". */
    private static void ofEveryWhat() {
        Check.edges("what of a FLIGHT", 0, 5, NOTHING, what -> flights(1).of(0, what));
        Check.edges("FLIGHT", 0, 2, NOTHING, f -> flights(3).of(f, 0));
        for (int what = 0; what < 6; what++) {
            Check.due("no FLIGHT", new ColdRing().of(0, what), NOTHING);
        }
    }

    private static int fed(ColdRing x, int feeds) {
        int answer = 0;
        for (int i = 0; i < feeds; i++) {
            answer = x.feed(0, 0, 0, 0, 0);
        }
        return answer;
    }

    /** "on a TAPE of at most 400 bytes"; "NONE, if there would be more than 400". */
    private static void feedsUpTo400() {
        for (int cut = 379; cut <= 381; cut++) {
            ColdRing x = new ColdRing();
            Check.due("19 feeds", fed(x, 19), 380);
            Check.due("20 feeds", fed(x, 1), 400);
            x.end(cut);
            Check.due("20 bytes behind " + cut, fed(x, 1), cut <= 380 ? cut + 20 : NONE);
            Check.due("bytes", x.count(8), cut <= 380 ? cut + 20 : cut);
        }
        ColdRing x = new ColdRing();
        fed(x, 20);
        Check.due("a full TAPE", x.feed(1, 1, 1, 1, 1), NONE);
        Check.due("bytes", x.count(8), 400);
        Check.due("it is not REFUSED", x.status() + x.count(9), 0);
        ColdRing y = new ColdRing();
        Check.put(y, "odds 7" + " ".repeat(375));
        y.feed(0x39393939, 0x39393939, 0x39393939, 0x39393939, 0x39393939);
        Check.due("none of the bytes came", y.text(), 0);
        Check.due("odds 7", y.odds(0, 0, 0, 0), 7);
    }

    /** "four of each number, the highest first". */
    private static void bytesHighestFirst() {
        ColdRing x = new ColdRing();
        x.feed(0x00010002, 0x00030004, 0x00050006, 0x00070008, 0x0009000A);
        Check.due("row", x.row(0, 1), 0);
        for (int f = 0; f < 10; f++) {
            Check.due("WARMTH of " + f, x.of(f, 0), f + 1);
        }
        Check.due("odds 12", x.feed(0x6f646473, 0x20313220, 0x20202020, 0x20202020, 0x20202020), 20);
        Check.due("a TEXT", x.text(), 0);
        Check.due("its ODDS", x.odds(0, 0, 0, 0), 12);
    }

    /** "NONE, if it has not so many, or n is below 0". */
    private static void endsWithinTheTape() {
        Check.edges("end of 20 bytes", 0, 20, NONE, n -> {
            ColdRing x = new ColdRing();
            fed(x, 1);
            return x.end(n);
        });
        Check.edges("end of 400 bytes", 0, 400, NONE, n -> {
            ColdRing x = new ColdRing();
            fed(x, 20);
            return x.end(n);
        });
        ColdRing x = new ColdRing();
        Check.due("end(0) of an empty TAPE", x.end(0), 0);
        Check.due("end(1) of an empty TAPE", x.end(1), NONE);
        fed(x, 1);
        Check.due("end(21)", x.end(21), NONE);
        Check.due("it stays", x.count(8), 20);
        Check.due("end(19)", x.end(19), 19);
        Check.due("bytes", x.count(8), 19);
        Check.due("end(20), of which there are no more so many", x.end(20), NONE);
        Check.due("end(-1)", x.end(-1), NONE);
        Check.due("it stays", x.count(8), 19);
        Check.due("it is not REFUSED", x.status() + x.count(9), 0);
    }

    private static ColdRing rowOf(int... shorts) {
        ColdRing x = new ColdRing();
        byte[] bytes = new byte[shorts.length * 2];
        for (int i = 0; i < shorts.length; i++) {
            bytes[2 * i] = (byte) (shorts[i] >> 8);
            bytes[2 * i + 1] = (byte) shorts[i];
        }
        Check.put(x, bytes);
        return x;
    }

    /** "two bytes each (the highest first, with sign)"; "if that can't be .. it is LOST AT SEA: WARMTH 0". */
    private static void shortsOfARow() {
        int[] shorts = {-41, -40, -39, 119, 120, 121, -1, 0, 1, -32768, 32767, 256, -256, 255, 376, -296, 127, 128};
        ColdRing x = rowOf(shorts);
        int lost = 0;
        for (int s : shorts) {
            lost += s < -40 || s > 120 ? 1 : 0;
        }
        Check.granted("row", x, x.row(7, 3), lost);
        for (int f = 0; f < shorts.length; f++) {
            boolean can = shorts[f] >= -40 && shorts[f] <= 120;
            Check.due("WARMTH of " + shorts[f], x.of(f, 0), can ? shorts[f] : 0);
            Check.due("LOST, of " + shorts[f], x.of(f, 5), can ? 0 : 1);
            Check.due("PRESS", x.of(f, 1), 7);
            Check.due("RINGS", x.of(f, 2), 3);
            for (int r = 0; r < 3; r++) {
                Check.due("RING " + r + " of " + shorts[f], x.ring(f, r, 0), can ? 0 : NONE);
            }
            Check.refused("RING 3", x, x.ring(f, 3, 0), -2);
        }
    }

    /** "for the last one, if the TAPE ends within it". */
    private static void rowEndsWithinAShort() {
        for (int bytes = 1; bytes <= 5; bytes++) {
            ColdRing x = rowOf(7, 8, 9);
            x.end(bytes);
            Check.granted("row of " + bytes + " bytes", x, x.row(0, 1), bytes % 2);
            Check.due("FLIGHTS", x.count(0), (bytes + 1) / 2);
            Check.due("KNOWN ones", x.count(6), bytes / 2);
            Check.due("the last one", x.of((bytes - 1) / 2, 0), bytes % 2 == 1 ? 0 : 6 + bytes / 2);
        }
    }

    /** "-5 there would be more than 24 (none comes then)". */
    private static void rowFillsUpTo24() {
        for (int stand : new int[] {0, 1, 22, 23, 24}) {
            for (int bytes = Math.max(1, 46 - 2 * stand); bytes <= 51 - 2 * stand; bytes++) {
                ColdRing x = flights(stand);
                Check.put(x, new byte[bytes]);
                int comes = (bytes + 1) / 2;
                String call = "row of " + bytes + " bytes behind " + stand;
                if (stand + comes > 24) {
                    Check.refused(call, x, x.row(0, 1), -5);
                    Check.due("none comes", x.count(0), stand);
                } else {
                    Check.granted(call, x, x.row(0, 1), bytes % 2);
                    Check.due("all come", x.count(0), stand + comes);
                }
                Check.due("the TAPE is empty then", x.count(8), 0);
            }
        }
        ColdRing x = new ColdRing();
        Check.put(x, new byte[400]);
        Check.refused("row of a full TAPE", x, x.row(0, 1), -5);
        Check.due("none comes", x.count(0), 0);
    }

    /** "with that PRESS and so many RINGS"; -1. */
    private static void rowPressRings() {
        Check.edges("PRESS of a ROW", 0, 9, -1, n -> rowOf(5).row(n, 1));
        Check.edges("RINGS of a ROW", 1, 6, -1, n -> rowOf(5).row(0, n));
        ColdRing full = flights(24);
        Check.put(full, new byte[2]);
        Check.refused("-1 ahead of -5", full, full.row(10, 1), -1);
        Check.refused("then -5", full, full.row(9, 1), -5);
    }

    /** "-6 the TAPE is empty"; "the first of these in that order". */
    private static void rowOfAnEmptyTape() {
        ColdRing x = new ColdRing();
        Check.refused("an empty TAPE", x, x.row(0, 1), -6);
        Check.refused("-1 ahead of -6", x, x.row(0, 0), -1);
        Check.refused("-1 ahead of -6", x, x.row(-1, 1), -1);
        fed(x, 1);
        x.end(0);
        Check.refused("a TAPE that was cut to nothing", x, x.row(0, 1), -6);
        ColdRing full = flights(24);
        Check.refused("24 FLIGHTS and an empty TAPE are not more than 24", full, full.row(0, 1), -6);
        Check.due("REFUSED by -5", full.count(12), 0);
    }

    /** "the TAPE is empty then (not if -1)". */
    private static void rowLeavesTheTape() {
        ColdRing x = rowOf(11, 12);
        Check.refused("can't be", x, x.row(0, 7), -1);
        Check.due("the TAPE stays", x.count(8), 4);
        Check.granted("the same TAPE", x, x.row(0, 6), 0);
        Check.due("its first", x.of(0, 0), 11);
        Check.due("its second", x.of(1, 0), 12);
        Check.due("the TAPE is empty then", x.count(8), 0);
        Check.refused("nothing is left", x, x.row(0, 6), -6);
    }
}
