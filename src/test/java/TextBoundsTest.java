/** The bounds that "Terms", II, and promises 9 and 10 name, each at the bound and one step beyond it. */
public final class TextBoundsTest {
    private static final int NONE = ColdRing.NONE;
    private static final String MOST = "1000*1000*1000";
    private static final String[] WORDS = {"warmth", "press", "ring", "worst", "rank", "room", "side", "doubt", "proof",
        "kind", "weight", "minute"};

    private TextBoundsTest() {
    }

    public static void main(String[] args) {
        mostTexts();
        noRoomAheadOfReading();
        theTapeIsEmptyThen();
        blanksAlone();
        fullTape();
        lettersAndDigits();
        longestRows();
        blanksBetween();
        twelveClauses();
        numbersToThousand();
        fiftyParts();
        fiftyPartsOfTheWholeText();
        eightBrackets();
        bracketsOfBothKinds();
        bracketsBesideOneAnother();
        faultAtTheEnd();
        faultOfTheLatest();
        beyondThousandMillions();
        beyondOnTheWay();
        wrapAround();
        dividedByNothing();
        cutTowardsNothing();
        brokenTests();
        whatStandsBehind();
        lastClauseThatHolds();
        wordsThatAreNotOfIt();
        wordsOfAnotherQuestion();
        wordsAheadOfAPicture();
        eachTextByItself();
        Check.finish("TextBoundsTest");
    }

    /** "TEXTS, 10 at most"; -5. */
    private static void mostTexts() {
        ColdRing x = new ColdRing();
        for (int i = 0; i < 9; i++) {
            Check.text(x, "odds " + (i + 10));
        }
        Check.due("there is no TEXT 9 yet", x.odds(9, 0, 0, 0), NONE);
        Check.granted("the 10th", x, Check.text(x, "odds 19"), 9);
        Check.refused("the 11th", x, Check.text(x, "odds 20"), -5);
        Check.due("TEXTS", x.count(1), 10);
        for (int i = 0; i < 10; i++) {
            Check.due("ODDS of " + i, x.odds(i, 0, 0, 0), i + 10);
        }
        Check.due("there is no TEXT 10", x.odds(10, 0, 0, 0), NONE);
    }

    /** "-5 (ahead of reading it)"; "FAULT of the latest text() that read a TEXT". */
    private static void noRoomAheadOfReading() {
        ColdRing x = new ColdRing();
        for (int i = 0; i < 9; i++) {
            Check.text(x, "stop");
        }
        Check.refused("no TEXT, while there is room", x, Check.text(x, "stop Q"), -6);
        Check.due("its FAULT", x.fault(), 5);
        x.image(0);
        Check.text(x, "stop");
        Check.due("no FAULT", x.fault(), NONE);
        Check.refused("no TEXT, without room", x, Check.text(x, "stop Q"), -5);
        Check.due("it was not read", x.fault(), NONE);
        Check.refused("an empty TAPE, without room", x, x.text(), -5);
        x.back(0);
        Check.refused("no TEXT, with room again", x, Check.text(x, "Q"), -6);
        Check.due("its FAULT", x.fault(), 0);
        Check.granted("the 10th", x, Check.text(x, "stop"), 9);
        x.back(0);
        Check.text(x, "stop  Q");
        Check.due("a FAULT ahead of no room", x.fault(), 6);
        x.image(1);
        Check.due("REFUSED by -5", x.count(12), 2);
        Check.due("REFUSED by -6", x.count(13), 3);
    }

    /** "The TAPE, which is empty then". */
    private static void theTapeIsEmptyThen() {
        ColdRing x = new ColdRing();
        Check.text(x, "stop");
        Check.due("behind a TEXT", x.count(8), 0);
        Check.text(x, "stop Q");
        Check.due("behind no TEXT", x.count(8), 0);
        Check.refused("nothing is left to read", x, x.text(), -6);
        Check.due("FAULT at the end of nothing", x.fault(), 0);
        for (int i = 1; i < 10; i++) {
            Check.text(x, "stop");
        }
        Check.text(x, "stop");
        Check.due("without room", x.count(8), 0);
    }

    /** "-6 (blanks alone: FAULT at the end)". */
    private static void blanksAlone() {
        for (int blanks : new int[] {0, 1, 2, 19, 20, 21, 399, 400}) {
            Check.faultDue(" ".repeat(blanks), blanks);
        }
    }

    /** "on a TAPE of at most 400 bytes". */
    private static void fullTape() {
        Check.faultDue(" ".repeat(396) + "stop", NONE);
        Check.faultDue("stop" + " ".repeat(396), NONE);
        Check.faultDue(" ".repeat(399) + "Q", 399);
        Check.faultDue(" ".repeat(399) + "s", 399);
        Check.faultDue("s".repeat(400), 0);
        Check.faultDue("odds 1" + "0".repeat(394), 5);
        Check.faultDue("odds " + "0".repeat(394) + "1", NONE);
        Check.faultDue("odds" + " ".repeat(395) + "1", NONE);
        Check.faultDue("odds 1+" + " ".repeat(393), 400);
        ColdRing x = new ColdRing();
        Check.put(x, "odds 77" + "7".repeat(393));
        x.end(7);
        Check.granted("what was cut is not read", x, x.text(), 0);
        Check.due("odds 77", x.odds(0, 0, 0, 0), 77);
    }

    /** "rows of letters a .. z, of digits, single other bytes". */
    private static void lettersAndDigits() {
        for (char sign : new char[] {'`', '{', 'A', 'O', 'Z', '@', '[', '_', '.', ':', '!', '~', 0, 31, 33, 127, 128, 160,
            200, 255}) {
            Check.faultDue(sign + "stop", 0);
            Check.faultDue("stop" + sign, 4);
            Check.faultDue("odds 1" + sign + "2", 6);
        }
        Check.faultDue("odds 0", NONE);
        Check.faultDue("odds 9", NONE);
        Check.faultDue("odds /9", 5);
        Check.faultDue("odds :9", 5);
        Check.faultDue("a", 0);
        Check.faultDue("z", 0);
        Check.faultDue("stopa", 0);
        Check.faultDue("stopz", 0);
        Check.faultDue("zstop", 0);
        Check.faultDue("stoP", 0);
    }

    /** "longest rows". */
    private static void longestRows() {
        Check.faultDue("odds10", NONE);
        Check.faultDue("odds 10warmth", 7);
        Check.faultDue("odds warmth10", 11);
        Check.faultDue("odds 1 0", 7);
        Check.faultDue("odds war mth", 5);
        Check.faultDue("od ds 1", 0);
        Check.faultDue("stopif 1=1", 0);
        Check.faultDue("stop if1=1", NONE);
        Check.faultDue("stop if 1=1or 1=1", NONE);
        Check.faultDue("stop if 1=warmthor 1=1", 10);
        Check.faultDue("stop if not1=1", NONE);
        Check.faultDue("stop if notring=1", 8);
        Check.faultDue("stop if(1=1)and(1=1)", NONE);
        for (String head : new String[] {"odds", "move", "key"}) {
            Check.faultDue(head + "s 1", 0);
            Check.faultDue(head.substring(0, head.length() - 1) + " 1", 0);
            Check.faultDue(head + " 1", NONE);
            Check.faultDue(head, head.length());
        }
    }

    /** "any blanks (32) between". */
    private static void blanksBetween() {
        Check.faultDue("   stop   if   [   1   ]   =   1   ;   stop   ", NONE);
        Check.faultDue("stop if[1]=1;stop", NONE);
        Check.faultDue("stop" + (char) 9, 4);
        Check.faultDue("stop" + (char) 10, 4);
        Check.faultDue("stop" + (char) 13, 4);
        Check.faultDue("stop  " + (char) 0, 6);
    }

    /** "CLAUSE {";" CLAUSE}, 12 at most (FAULT at the 13th's first TOKEN)". */
    private static void twelveClauses() {
        Check.faultDue("stop" + ";stop".repeat(10), NONE);
        Check.faultDue("stop" + ";stop".repeat(11), NONE);
        Check.faultDue("stop" + ";stop".repeat(12), 60);
        Check.faultDue("stop" + ";stop".repeat(13), 60);
        Check.faultDue("stop" + ";stop".repeat(11) + ";", 60);
        Check.faultDue("stop" + ";stop".repeat(11) + ";   ", 63);
        Check.faultDue("stop" + ";stop".repeat(11) + ";  stop", 62);
        Check.faultDue("stop" + ";stop".repeat(11) + "Q", 59);
        Check.faultDue("stop" + ";stop".repeat(10) + ";", 55);
        Check.faultDue("stop" + ";stop".repeat(10) + ";Q", 55);
        Check.faultDue("stop" + ";stop".repeat(10) + ";odds", 59);
        ColdRing x = new ColdRing();
        Check.text(x, "odds 1" + ";odds 1".repeat(10) + ";odds 12");
        Check.due("the 12th tells", x.odds(0, 0, 0, 0), 12);
        Check.text(x, "odds 1" + ";odds 1".repeat(11) + ";odds 12");
        Check.due("a 13th is none", x.count(1), 1);
    }

    /** "NUMBER (to 1,000)". */
    private static void numbersToThousand() {
        for (String number : new String[] {"0", "00", "999", "1000", "0999", "01000", "00000000000000000001000"}) {
            Check.faultDue("odds " + number, NONE);
            Check.faultDue("stop if 1=" + number, NONE);
        }
        for (String number : new String[] {"1001", "01001", "1010", "1100", "2000", "9999", "10000", "2147483648",
            "4294967296", "4294967297", "18446744073709551617", "10000000000000000000000000"}) {
            Check.faultDue("odds " + number, 5);
            Check.faultDue("odds 1+" + number, 7);
            Check.faultDue("stop if 1=" + number, 10);
        }
        oddsDue("odds 1000-999", 1);
        oddsDue("odds 1000-998", 2);
        oddsDue("odds 01000-0998", 2);
    }

    /** "50 PARTS that are NUMBERS and words (FAULT at the 51st)". */
    private static void fiftyParts() {
        Check.faultDue("odds 1" + "+1".repeat(48), NONE);
        Check.faultDue("odds 1" + "+1".repeat(49), NONE);
        Check.faultDue("odds 1" + "+1".repeat(50), 105);
        Check.faultDue("odds 1" + "+1".repeat(51), 105);
        Check.faultDue("odds 1" + "+1".repeat(49) + "+  ring", 107);
        Check.faultDue("odds 1" + "+1".repeat(49) + "+", 105);
        Check.faultDue("odds 1" + "+1".repeat(49) + "+Q", 105);
        Check.faultDue("odds 1" + "+1".repeat(49) + "+[1]", 106);
        Check.faultDue("odds 1" + "+1".repeat(49) + ";stop", NONE);
        Check.faultDue("odds [1]" + "+[1]".repeat(49), NONE);
        Check.faultDue("odds [1]" + "+[1]".repeat(50), 206);
        for (String word : WORDS) {
            String most = "odds " + word + ("+" + word).repeat(49);
            Check.faultDue(most, NONE);
            Check.faultDue(most + "+1", most.length() + 1);
            Check.faultDue("odds 1" + "+1".repeat(49) + "+" + word, 105);
        }
        oddsDue("odds 1" + "+1".repeat(47), 48);
        oddsDue("odds 2" + "+1".repeat(49), 51);
    }

    /** The 50 PARTS are those of the TEXT, in HEADS and behind "if", in all its CLAUSES. */
    private static void fiftyPartsOfTheWholeText() {
        String half = "odds 1" + "+1".repeat(23) + ";";
        Check.faultDue(half + "odds 1" + "+1".repeat(25), NONE);
        Check.faultDue(half + "odds 1" + "+1".repeat(26), 110);
        Check.faultDue(half + "odds 1" + "+1".repeat(23) + " if 1=1", NONE);
        Check.faultDue(half + "odds 1" + "+1".repeat(24) + " if 1=1", 113);
        Check.faultDue(half + "odds 1" + "+1".repeat(25) + " if 1=1", 113);
        Check.faultDue("stop if 1=1" + " or 1=1".repeat(24), NONE);
        Check.faultDue("stop if 1=1" + " or 1=1".repeat(25), 183);
    }

    /** "8 brackets .. within one another (FAULT at the 9th)". */
    private static void eightBrackets() {
        for (int deep = 7; deep <= 10; deep++) {
            Check.faultDue("odds " + "[".repeat(deep) + "1" + "]".repeat(deep), deep <= 8 ? NONE : 13);
            Check.faultDue("stop if " + "(".repeat(deep) + "1=1" + ")".repeat(deep), deep <= 8 ? NONE : 16);
        }
        Check.faultDue("odds " + "[".repeat(8) + "1" + "]".repeat(7), 21);
        Check.faultDue("odds " + "[".repeat(8) + "1" + "]".repeat(9), 22);
        Check.faultDue("stop if " + "(".repeat(8) + "1=1" + ")".repeat(9), 27);
        Check.faultDue("odds " + "[ ".repeat(8) + " [1]", 22);
        oddsDue("odds " + "[".repeat(8) + "61" + "]".repeat(8), 61);
        oddsDue("odds 61 if " + "(".repeat(8) + "1=1" + ")".repeat(8), 61);
    }

    /** "8 brackets of both kinds". */
    private static void bracketsOfBothKinds() {
        for (int round = 0; round <= 8; round++) {
            int square = 8 - round;
            String open = "(".repeat(round) + "[".repeat(square);
            String shut = "]".repeat(square) + "=1" + ")".repeat(round);
            Check.faultDue("stop if " + open + "1" + shut, NONE);
            Check.faultDue("stop if " + open + "[1]" + shut, 16);
            Check.faultDue("stop if " + "(".repeat(round) + "1=" + "[".repeat(square) + "1" + "]".repeat(square)
                + ")".repeat(round), NONE);
            Check.faultDue("stop if " + "(".repeat(round) + "1=" + "[".repeat(square) + "[1]" + "]".repeat(square)
                + ")".repeat(round), 18);
        }
    }

    /** "within one another": not those beside one another. */
    private static void bracketsBesideOneAnother() {
        Check.faultDue("odds [1]" + "+[1]".repeat(20), NONE);
        Check.faultDue("stop if (1=1)" + "or(1=1)".repeat(20), NONE);
        String deep = "[".repeat(8) + "1" + "]".repeat(8);
        Check.faultDue("odds " + deep + "+" + deep + "+" + deep, NONE);
        Check.faultDue("odds " + deep + "+[" + deep, 31);
        Check.faultDue("stop if " + deep + "=" + deep + ";odds " + deep, NONE);
        Check.faultDue("stop if " + "not(".repeat(8) + "1=1" + ")".repeat(8), NONE);
        Check.faultDue("stop if " + "not(".repeat(9) + "1=1" + ")".repeat(9), 8 + 8 * 4 + 3);
        Check.faultDue("stop if " + "not ".repeat(9) + "(" + "1=1)", NONE);
    }

    /** "the first TOKEN that can't go on there (the end's: the TEXT's length)". */
    private static void faultAtTheEnd() {
        String[] cut = {"odds", "odds 1+", "odds 1*", "odds [", "odds [1", "stop if", "stop if 1", "stop if 1<",
            "stop if not", "stop if (", "stop if (1=1", "stop if 1=1 or", "stop if 1=1 and", "stop;", "stop if 1=1;"};
        for (String signs : cut) {
            Check.faultDue(signs, signs.length());
            Check.faultDue(signs + "   ", signs.length() + 3);
            Check.faultDue(signs + "   Q", signs.length() + 3);
        }
        Check.faultDue("stop stop", 5);
        Check.faultDue("odds 1 if 1=1 2", 14);
        Check.faultDue("odds Q Q", 5);
    }

    /** "FAULT of the latest text() that read a TEXT: its place; NONE without". */
    private static void faultOfTheLatest() {
        ColdRing x = new ColdRing();
        Check.due("ahead of any", x.fault(), NONE);
        x.text();
        Check.due("an empty TAPE", x.fault(), 0);
        Check.text(x, "stop Q");
        Check.due("the later one", x.fault(), 5);
        Check.text(x, " stop Q");
        Check.due("the later one", x.fault(), 6);
        Check.put(x, new byte[] {0, 1});
        x.row(0, 1);
        x.row(0, 1);
        x.feed(0, 0, 0, 0, 0);
        x.end(0);
        Check.due("no other call changes it", x.fault(), 6);
        Check.text(x, "stop");
        Check.due("a TEXT that was read well", x.fault(), NONE);
    }

    private static void oddsDue(String law, int want) {
        ColdRing x = new ColdRing();
        Check.text(x, law);
        Check.due("odds of '" + law + "'", x.odds(0, 60, 4, 3), want);
    }

    /** Whether the SUM is BROKEN: in a HEAD, and on either side of a TEST. */
    private static void soundDue(String sum, boolean sound) {
        oddsDue("odds 7;odds [" + sum + "]*0+8", sound ? 8 : 7);
        oddsDue("odds 7;odds " + sum, sound ? (sum.startsWith("0-") ? 1 : 99) : 7);
        oddsDue("odds 7;odds 8 if not " + sum + "=3", sound ? 8 : 7);
        oddsDue("odds 7;odds 8 if not 3=" + sum, sound ? 8 : 7);
        oddsDue("odds 7;odds 8 if " + sum + "=3", 7);
    }

    /** "Beyond 1,000,000,000 either way .. is BROKEN". */
    private static void beyondThousandMillions() {
        soundDue(MOST, true);
        soundDue(MOST + "-1", true);
        soundDue(MOST + "+0", true);
        soundDue(MOST + "+1", false);
        soundDue("0-" + MOST, true);
        soundDue("0-" + MOST + "+1", true);
        soundDue("0-" + MOST + "-0", true);
        soundDue("0-" + MOST + "-1", false);
        soundDue("1+" + MOST, false);
        soundDue(MOST + "*2", false);
        soundDue("0-1-" + MOST, false);
        soundDue("[31*1000+622]*[31*1000+622]", true);
        soundDue("[31*1000+623]*[31*1000+623]", false);
        soundDue("0-[31*1000+622]*[31*1000+622]", true);
        soundDue("0-[31*1000+623]*[31*1000+623]", false);
        soundDue("[0-31*1000-623]*[31*1000+623]", false);
    }

    /** A SUM is BROKEN by what goes beyond on the way, though it comes back. */
    private static void beyondOnTheWay() {
        soundDue(MOST + "+1-1", false);
        soundDue("[" + MOST + "+1]*0", false);
        soundDue("0*[" + MOST + "+1]", false);
        soundDue(MOST + "*2/2", false);
        soundDue("1-1+" + MOST, true);
        soundDue("1+" + MOST + "-1", false);
        soundDue("1/[" + MOST + "+1]", false);
    }

    /** "wrap": products that come back to small numbers in 32 or 64 bits are BROKEN all the same. */
    private static void wrapAround() {
        String twoTo16 = "[65*1000+536]";
        soundDue(twoTo16 + "*" + twoTo16, false);
        soundDue(MOST + "*4", false);
        soundDue(MOST + "*[" + MOST + "]", false);
        soundDue("0-" + MOST + "*[" + MOST + "]", false);
        soundDue(twoTo16 + "*" + twoTo16 + "*" + twoTo16 + "*" + twoTo16, false);
        soundDue("1000" + "*1000".repeat(21), false);
        soundDue("[" + MOST + "]+[" + MOST + "]+[" + MOST + "]+[" + MOST + "]+[" + MOST + "]", false);
    }

    /** "or divided by 0". */
    private static void dividedByNothing() {
        soundDue("1000/0", false);
        soundDue("0-0/0", false);
        soundDue("1000/[ring-3]", false);
        soundDue("1000/[ring-2]", true);
        soundDue("1000/[3-ring]", false);
        soundDue("1000/[1/2]", false);
        soundDue("1000/[[0-1]/2]", false);
        soundDue("1000+0/1", true);
        soundDue("1000/worst", false);
    }

    /** "/ is cut towards 0". */
    private static void cutTowardsNothing() {
        int[][] due = {{7, 2, 3}, {8, 2, 4}, {1, 2, 0}, {0, 5, 0}, {999, 1000, 0}, {1000, 1000, 1}};
        for (int[] d : due) {
            oddsDue("odds 50+" + d[0] + "/" + d[1], 50 + d[2]);
            oddsDue("odds 50+[0-" + d[0] + "]/" + d[1], 50 - d[2]);
            oddsDue("odds 50+" + d[0] + "/[0-" + d[1] + "]", 50 - d[2]);
            oddsDue("odds 50+[0-" + d[0] + "]/[0-" + d[1] + "]", 50 + d[2]);
        }
    }

    /** "neither that nor its SUM is BROKEN". */
    private static void brokenTests() {
        oddsDue("odds 7;odds 1/0 if 1=1", 7);
        oddsDue("odds 7;odds 1/0 if 1=2", 7);
        oddsDue("odds 7;odds 8 if 1/0=1", 7);
        oddsDue("odds 7;odds 8 if not 1/0=1", 7);
        oddsDue("odds 7;odds 8 if not not 1/0=1", 7);
        oddsDue("odds 7;odds 8 if (1/0<1) or 1=1", 7);
        oddsDue("odds 7;odds 8 if not(1/0>1 and 1=2)", 7);
        oddsDue("odds 1/0", 50);
        oddsDue("odds 8 if 1/0=1", 50);
        oddsDue("odds 1/0;odds 8", 8);
    }

    /** "("or", "and" ask what stands behind only if it can still matter)". */
    private static void whatStandsBehind() {
        oddsDue("odds 7;odds 8 if 1=1 or 1/0=1", 8);
        oddsDue("odds 7;odds 8 if 1=2 or 1/0=1", 7);
        oddsDue("odds 7;odds 8 if not(1=2 and 1/0=1)", 8);
        oddsDue("odds 7;odds 8 if not(1=1 and 1/0=1)", 7);
        oddsDue("odds 7;odds 8 if 1=1 or 1/0=1 or 1/0=1", 8);
        oddsDue("odds 7;odds 8 if 1=2 or 1=1 or 1/0=1", 8);
        oddsDue("odds 7;odds 8 if 1=1 or 1=2 and 1/0=1", 8);
        oddsDue("odds 7;odds 8 if 1=2 and 1/0=1 or 1=1", 8);
        oddsDue("odds 7;odds 8 if 1=2 and 1/0=1 and 1/0=1 or 1=1", 8);
        oddsDue("odds 7;odds 8 if 1=1 and 1=2 and 1/0=1 or 1=1", 8);
        oddsDue("odds 7;odds 8 if 1=2 and 1/0=1 or 1/0=1", 7);
        oddsDue("odds 7;odds 8 if (1=1 or 1/0=1) and 1=1", 8);
        oddsDue("odds 7;odds 8 if (1=1 or 1/0=1) and 1/0=1", 7);
        oddsDue("odds 7;odds 8 if not(1=1 or 1/0=1) or 1=1", 8);
    }

    /** "Told by a HEAD is what the last CLAUSE with it that HOLDS tells". */
    private static void lastClauseThatHolds() {
        oddsDue("odds 7;odds 8", 8);
        oddsDue("odds 8;odds 7", 7);
        oddsDue("odds 7;odds 8 if ring=3;odds 9 if ring=4", 8);
        oddsDue("odds 7;odds 8 if ring>3;odds 9 if ring<3", 7);
        oddsDue("odds 7 if ring=4", 50);
        oddsDue("odds 7;key 8;move 9;stop;odds 1/0", 7);
    }

    /** "words that are not of it are 0": of a RING, of a FLIGHT, of a TALKER, with and without a SHEET. */
    private static void wordsThatAreNotOfIt() {
        for (String word : WORDS) {
            boolean ofRing = word.equals("warmth") || word.equals("press") || word.equals("ring");
            oddsDue("odds 7;odds 8 if " + word + "=0", ofRing ? 7 : 8);
            boolean ofFlight = word.equals("warmth") || word.equals("press") || word.equals("worst");
            ColdRing x = new ColdRing();
            x.flight(3, 4, 2);
            x.ring(0, 1, 5);
            x.flight(0, 0, 2);
            Check.text(x, "key 1 if not " + word + "=0");
            Check.due(word + " of a FLIGHT", x.picture(0, 0, 0), ofFlight ? 1 : 0);
            wordOfATalker(word);
        }
    }

    private static void wordOfATalker(String word) {
        boolean ofTalker = "rank room side doubt proof".contains(word);
        boolean ofSheet = "kind weight minute".contains(word);
        ColdRing x = new ColdRing();
        x.flight(9, 9, 1);
        x.ring(0, 0, 9);
        Check.text(x, "move 5;move 10 if not " + word + "=0");
        Check.text(x, "stop if not " + word + "=0");
        x.talker(9, 2, 1, 50, 1);
        x.talker(8, 2, 1, 60, 1);
        x.send(x.sheet(0, 100, 5, 3, 4), 1);
        x.send(x.sheet(0, 200, 7, 3, 4), 1);
        Check.due(word + " with a SHEET", x.talked(0, 1, 1, 0), ofTalker || ofSheet ? 70 : 65);
        Check.due(word + " without a SHEET", x.talked(0, 1, 1, 2), ofTalker ? 1 : 0);
    }

    /** A word that is not of what a TEXT is asked of is 0, whatever was asked ahead of it. */
    private static void wordsOfAnotherQuestion() {
        for (String word : WORDS) {
            ColdRing x = new ColdRing();
            x.flight(3, 4, 2);
            x.ring(0, 1, 5);
            x.flight(0, 0, 2);
            x.talker(9, 2, 1, 50, 1);
            x.talker(8, 2, 1, 60, 1);
            x.send(x.sheet(0, 100, 5, 3, 4), 1);
            x.send(x.sheet(0, 200, 7, 3, 4), 1);
            String so = " if not " + word + "=0";
            Check.text(x, "odds 30;odds 40" + so + ";key 1" + so + ";move 5;move 10" + so + ";stop" + so);
            boolean ofRing = "warmth press ring".contains(word);
            boolean ofFlight = "warmth press worst".contains(word);
            boolean ofTalker = "rank room side doubt proof".contains(word);
            boolean ofSheet = "kind weight minute".contains(word);
            int[] orders = {0, 1, 2, 3, 0, 3, 2, 1, 0, 2, 0, 3, 1, 3, 3};
            for (int question : orders) {
                if (question == 0) {
                    Check.due(word + " of a RING", x.odds(0, 7, 7, 5), ofRing ? 40 : 30);
                } else if (question == 1) {
                    Check.due(word + " of a FLIGHT", x.picture(0, 0, 0), ofFlight ? 1 : 0);
                } else if (question == 2) {
                    Check.due(word + " with a SHEET", x.talked(0, 0, 1, 0), ofTalker || ofSheet ? 70 : 65);
                } else {
                    Check.due(word + " without a SHEET", x.talked(0, 0, 1, 2), ofTalker ? 1 : 0);
                }
            }
        }
    }

    /** As above, with a "key" that turns the order of the FLIGHTS about unless the word is 0 for both of them. */
    private static void wordsAheadOfAPicture() {
        for (String word : new String[] {"ring", "rank", "room", "side", "doubt", "proof", "kind", "weight", "minute"}) {
            for (int question = 0; question < 3; question++) {
                ColdRing x = new ColdRing();
                x.flight(3, 4, 2);
                x.flight(0, 0, 2);
                x.talker(9, 2, 1, 50, 1);
                x.talker(8, 2, 1, 60, 1);
                x.send(x.sheet(0, 100, 5, 3, 4), 1);
                x.send(x.sheet(0, 200, 7, 3, 4), 1);
                Check.text(x, "key 0-warmth;key warmth if not " + word + "=0;odds warmth+ring;move doubt;stop if doubt>0");
                if (question == 0) {
                    x.odds(0, 7, 7, 5);
                } else if (question == 1) {
                    x.talked(0, 0, 1, 2);
                } else {
                    x.times(0, 0, 0);
                }
                Check.due(word + " of a FLIGHT behind question " + question, x.picture(0, 0, 0), 0);
                Check.due(word + " of the next FLIGHT", x.picture(0, 0, 1), 1);
            }
        }
    }

    /** CLAUSES, PARTS and brackets are counted for each TEXT anew, behind one that was none, too. */
    private static void eachTextByItself() {
        String parts = "odds 21" + "+1".repeat(49);
        String clauses = "odds 1;".repeat(11) + "odds 71";
        String brackets = "odds " + "[".repeat(8) + "72" + "]".repeat(8);
        ColdRing x = new ColdRing();
        for (int i = 0; i < 3; i++) {
            Check.granted("50 PARTS", x, Check.text(x, parts), 3 * i);
            Check.refused("51 PARTS", x, Check.text(x, parts + "+1"), -6);
            Check.granted("12 CLAUSES", x, Check.text(x, clauses), 3 * i + 1);
            Check.refused("13 CLAUSES", x, Check.text(x, clauses + ";stop"), -6);
            Check.refused("9 brackets", x, Check.text(x, "odds " + "[".repeat(9) + "1" + "]".repeat(9)), -6);
            Check.granted("8 brackets", x, Check.text(x, brackets), 3 * i + 2);
        }
        for (int i = 0; i < 9; i++) {
            Check.due("ODDS of " + i, x.odds(i, 0, 0, 0), 70 + i % 3);
        }
    }
}
