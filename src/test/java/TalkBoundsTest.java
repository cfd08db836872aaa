/** The bounds that "Terms", V, and promises 26 to 35 name, each at the bound and one step beyond it. */
public final class TalkBoundsTest {
    private static final int NONE = ColdRing.NONE;

    private TalkBoundsTest() {
    }

    public static void main(String[] args) {
        mostTalkers();
        talkerBounds();
        mostSheets();
        sheetBounds();
        sheetOfATalker();
        sendBounds();
        notSentAtFirst();
        onlyRoomsOfTheSheet();
        itsOwnOneLeftOut();
        byMinutesThenNumbers();
        doubtStaysWithin();
        doubtIsAsItIsThen();
        moveWithout();
        halfOfHurried();
        turnedAlone();
        lowerRankThanItsTalkers();
        proofFromThenOn();
        minuteOfTheFirstProof();
        needOrMore();
        voteAlone();
        stopIsAskedWithoutASheet();
        talkArguments();
        talkedArguments();
        leastIsTheFewest();
        leastIsTheFirstRow();
        leastOfNone();
        leastOfAll();
        moreArguments();
        partsOfThoseWithVote();
        partsArguments();
        askIsTheLowest();
        worldsBounds();
        drawBelowHurry();
        drawsGoOn();
        drawsOfSentOnes();
        Check.finish("TalkBoundsTest");
    }

    private static ColdRing hall(String moves, String stops) {
        ColdRing x = new ColdRing();
        Check.text(x, moves);
        Check.text(x, stops);
        return x;
    }

    /** TALKER 0 shows, TALKER 1 sees and has VOTE; all in ROOM 0. */
    private static ColdRing pair(String moves, String stops, int doubt) {
        ColdRing x = hall(moves, stops);
        x.talker(5, 0, 0, 0, 0);
        x.talker(5, 0, 0, doubt, 1);
        return x;
    }

    private static int sentSheet(ColdRing x, int minute, int kind, int weight) {
        int sheet = x.sheet(0, minute, kind, weight, 1);
        x.send(sheet, 1);
        return sheet;
    }

    /** "TALKERS 0 .. 11 (12 at most)"; -5. */
    private static void mostTalkers() {
        ColdRing x = new ColdRing();
        for (int t = 0; t < 12; t++) {
            Check.granted("talker " + t, x, x.talker(9, 2, 1, 100, 1), t);
        }
        Check.refused("the 13th", x, x.talker(9, 2, 1, 100, 1), -5);
        Check.due("TALKERS", x.count(3), 12);
        Check.refused("-1 ahead of -5", x, x.talker(10, 2, 1, 100, 1), -1);
        Check.granted("a SHEET of the 12th", x, x.sheet(11, 0, 0, 0, 0), 0);
        Check.refused("a SHEET of the 13th", x, x.sheet(12, 0, 0, 0, 0), -2);
        Check.text(x, "stop");
        Check.due("all of them STOP it", x.talk(0, 0, 0), 12);
        Check.due("DOUBT of the 12th", x.talked(0, 0, 11, 0), 100);
        Check.due("DOUBT of the 13th", x.talked(0, 0, 12, 0), NONE);
    }

    /** "RANK 0 .. 9, ROOM 0 .. 2, SIDE 0, 1, DOUBT 0 .. 100, VOTE 1 or 0"; -1. */
    private static void talkerBounds() {
        Check.edges("RANK", 0, 9, -1, n -> new ColdRing().talker(n, 0, 0, 0, 0));
        Check.edges("ROOM", 0, 2, -1, n -> new ColdRing().talker(0, n, 0, 0, 0));
        Check.edges("SIDE", 0, 1, -1, n -> new ColdRing().talker(0, 0, n, 0, 0));
        Check.edges("DOUBT", 0, 100, -1, n -> new ColdRing().talker(0, 0, 0, n, 0));
        Check.edges("VOTE", 0, 1, -1, n -> new ColdRing().talker(0, 0, 0, 0, n));
        ColdRing x = new ColdRing();
        Check.refused("can't be", x, x.talker(0, 3, 0, 0, 0), -1);
        Check.due("none comes", x.count(3), 0);
        Check.granted("the first", x, x.talker(0, 2, 0, 0, 0), 0);
    }

    /** "SHEETS 0 .. 11 (12 at most)"; -5. */
    private static void mostSheets() {
        ColdRing x = pair("move 1", "stop", 0);
        for (int s = 0; s < 12; s++) {
            Check.granted("sheet " + s, x, x.sheet(0, 400, 7, 50, 7), s);
        }
        Check.refused("the 13th", x, x.sheet(0, 400, 7, 50, 7), -5);
        Check.refused("-2 ahead of -5", x, x.sheet(2, 400, 7, 50, 7), -2);
        Check.refused("-1 ahead of -2 and -5", x, x.sheet(2, 401, 7, 50, 7), -1);
        Check.due("SHEETS", x.count(4), 12);
        Check.granted("the 12th is sent", x, x.send(11, 1), 0);
        Check.refused("the 13th is sent", x, x.send(12, 1), -2);
        for (int s = 0; s < 11; s++) {
            x.send(s, 1);
        }
        Check.due("all are SENT", x.count(5), 12);
        Check.due("all are shown", x.talked(0, 1, 1, 0), 12);
    }

    /** "MINUTE 0 .. 400, KIND 0 .. 7, WEIGHT -50 .. 50, ROOMS (bits)"; -1. */
    private static void sheetBounds() {
        Check.edges("MINUTE", 0, 400, -1, n -> pair("stop", "stop", 0).sheet(0, n, 0, 0, 0));
        Check.edges("KIND", 0, 7, -1, n -> pair("stop", "stop", 0).sheet(0, 0, n, 0, 0));
        Check.edges("WEIGHT", -50, 50, -1, n -> pair("stop", "stop", 0).sheet(0, 0, 0, n, 0));
        Check.edges("ROOMS", 0, 7, -1, n -> pair("stop", "stop", 0).sheet(0, 0, 0, 0, n));
        ColdRing x = pair("move weight+minute-400", "stop", 50);
        Check.refused("can't be", x, x.sheet(0, 400, 0, 51, 1), -1);
        Check.due("none comes", x.count(4), 0);
        sentSheet(x, 400, 0, 50);
        Check.due("the greatest WEIGHT", x.talked(0, 1, 1, 0), 100);
        x.send(0, 0);
        sentSheet(x, 400, 0, -50);
        Check.due("the least WEIGHT", x.talked(0, 1, 1, 0), 0);
    }

    /** "-2 its TALKER". */
    private static void sheetOfATalker() {
        Check.edges("TALKER", 0, 1, -2, t -> pair("stop", "stop", 0).sheet(t, 0, 0, 0, 0));
        ColdRing x = new ColdRing();
        Check.refused("no TALKER at all", x, x.sheet(0, 0, 0, 0, 0), -2);
        Check.refused("-1 ahead of -2", x, x.sheet(0, 0, 8, 0, 0), -1);
        Check.due("none comes", x.count(4), 0);
    }

    /** "from now on (1) or not (0): what it was. -1; -2." */
    private static void sendBounds() {
        Check.edges("sent", 0, 1, -1, n -> withSheets(2).send(0, n));
        Check.edges("SHEET", 0, 1, -2, s -> withSheets(2).send(s, 1));
        ColdRing x = withSheets(1);
        Check.refused("-1 ahead of -2", x, x.send(1, 2), -1);
        Check.refused("then -2", x, x.send(1, 1), -2);
        Check.due("none is SENT", x.count(5), 0);
        Check.granted("it was not", x, x.send(0, 1), 0);
        Check.refused("can't be", x, x.send(0, 2), -1);
        Check.refused("can't be", x, x.send(0, -1), -1);
        Check.due("it stays SENT", x.count(5), 1);
        Check.granted("it was", x, x.send(0, 1), 1);
        Check.granted("it was", x, x.send(0, 0), 1);
        Check.granted("it was not", x, x.send(0, 0), 0);
        ColdRing none = withSheets(0);
        Check.refused("no SHEET at all", none, none.send(0, 1), -2);
    }

    private static ColdRing withSheets(int many) {
        ColdRing x = pair("move 10", "stop if doubt>9", 0);
        for (int s = 0; s < many; s++) {
            x.sheet(0, 0, 0, 0, 1);
        }
        return x;
    }

    /** "A SHEET, not SENT". */
    private static void notSentAtFirst() {
        ColdRing x = withSheets(1);
        Check.due("none is SENT", x.count(5), 0);
        Check.due("it is not shown", x.talked(0, 1, 1, 0), 0);
        x.send(0, 1);
        Check.due("it is shown", x.talked(0, 1, 1, 0), 10);
        x.send(0, 0);
        Check.due("it is not shown any more", x.talked(0, 1, 1, 0), 0);
    }

    /** "ROOMS (bits) in which it is shown": each ROOM has its bit. */
    private static void onlyRoomsOfTheSheet() {
        for (int rooms = 0; rooms <= 7; rooms++) {
            ColdRing x = hall("move 10", "stop");
            x.talker(0, 0, 0, 0, 0);
            for (int room = 0; room < 3; room++) {
                x.talker(0, room, 0, 0, room % 2);
            }
            x.send(x.sheet(0, 0, 0, 0, rooms), 1);
            for (int room = 0; room < 3; room++) {
                Check.due("ROOM " + room + " of " + rooms, x.talked(0, 1, 1 + room, 0), (rooms >> room & 1) * 10);
            }
        }
    }

    /** "its own one left out". */
    private static void itsOwnOneLeftOut() {
        ColdRing x = hall("move 10", "stop");
        for (int t = 0; t < 12; t++) {
            x.talker(0, t % 3, 0, 0, 1);
        }
        for (int own : new int[] {0, 1, 10, 11}) {
            x.image(0);
            x.send(x.sheet(own, 0, 0, 0, 7), 1);
            for (int t = 0; t < 12; t++) {
                Check.due("DOUBT of " + t + ", shown by " + own, x.talked(0, 1, t, 0), t == own ? 0 : 10);
            }
            x.back(0);
        }
    }

    /** "shown by MINUTES, of alike ones by numbers": doubling and adding do not commute. */
    private static void byMinutesThenNumbers() {
        int[][] due = {{10, 11, 13}, {10, 10, 13}, {11, 10, 16}, {0, 400, 13}, {400, 0, 16}, {0, 0, 13}, {400, 400, 13},
            {1, 0, 16}, {399, 400, 13}};
        for (int[] d : due) {
            ColdRing x = pair("move doubt;move 3 if kind=1", "stop", 5);
            sentSheet(x, d[0], 0, 0);
            sentSheet(x, d[1], 1, 0);
            Check.due("MINUTES " + d[0] + ", " + d[1], x.talked(0, 1, 1, 0), d[2]);
        }
        ColdRing x = pair("move 1;move doubt if kind=1", "stop", 1);
        int[] minutes = {30, 10, 20, 10, 30, 20};
        int[] kinds = {1, 0, 1, 1, 0, 0};
        for (int s = 0; s < 6; s++) {
            sentSheet(x, minutes[s], kinds[s], 0);
        }
        // 1+1, doubled 4, doubled 8, +1 9, doubled 18, +1 19
        Check.due("six of three MINUTES", x.talked(0, 1, 1, 0), 19);
    }

    /** "0 .. 100 (else the nearest)". */
    private static void doubtStaysWithin() {
        int[][] due = {{99, 1, 100}, {99, 2, 100}, {100, 0, 100}, {100, 1, 100}, {100, -1, 99}, {1, -1, 0}, {1, -2, 0},
            {0, 0, 0}, {0, -1, 0}, {0, 1, 1}, {51, 50, 100}, {50, 50, 100}, {49, -50, 0}, {50, -50, 0}, {51, -50, 1}};
        for (int[] d : due) {
            ColdRing x = pair("move weight", "stop", d[0]);
            sentSheet(x, 0, 0, d[1]);
            Check.due(d[0] + " by " + d[1], x.talked(0, 1, 1, 0), d[2]);
        }
        for (String far : new String[] {"1000*1000*1000", "101", "100"}) {
            ColdRing up = pair("move " + far, "stop", 0);
            sentSheet(up, 0, 0, 0);
            Check.due("up by " + far, up.talked(0, 1, 1, 0), 100);
            ColdRing down = pair("move 0-" + far, "stop", 100);
            sentSheet(down, 0, 0, 0);
            Check.due("down by " + far, down.talked(0, 1, 1, 0), 0);
        }
    }

    /** It stays within behind each SHEET, not at the end alone; "DOUBT and PROOF are as they are then". */
    private static void doubtIsAsItIsThen() {
        ColdRing x = pair("move weight", "stop", 90);
        sentSheet(x, 0, 0, 50);
        sentSheet(x, 1, 0, -30);
        Check.due("90, 100, 70", x.talked(0, 1, 1, 0), 70);
        ColdRing y = pair("move weight", "stop", 10);
        sentSheet(y, 0, 0, -50);
        sentSheet(y, 1, 0, 30);
        Check.due("10, 0, 30", y.talked(0, 1, 1, 0), 30);
        ColdRing z = pair("move 1;move 50 if doubt=2", "stop", 0);
        for (int s = 0; s < 4; s++) {
            sentSheet(z, s, 0, 0);
        }
        Check.due("0, 1, 2, 52, 53", z.talked(0, 1, 1, 0), 53);
        Check.due("a TALK changes nothing", z.talked(0, 1, 1, 0), 53);
    }

    /** "what "move" tells (0 without)". */
    private static void moveWithout() {
        for (String law : new String[] {"stop", "odds 7;key 7", "move 7 if 1=2", "move 1/0", "move 1000*1000*1000+1"}) {
            ColdRing x = pair(law, "stop", 33);
            sentSheet(x, 0, 0, 0);
            Check.due("without, by " + law, x.talked(0, 1, 1, 0), 33);
        }
    }

    /** "of KIND 6 (HURRIED) half of that, cut towards 0". */
    private static void halfOfHurried() {
        int[][] due = {{0, 0}, {1, 0}, {2, 1}, {3, 1}, {4, 2}, {49, 24}, {50, 25}, {-1, 0}, {-2, -1}, {-3, -1}, {-4, -2},
            {-49, -24}, {-50, -25}};
        for (int[] d : due) {
            for (int kind = 0; kind <= 7; kind++) {
                ColdRing x = pair("move weight", "stop", 50);
                sentSheet(x, 0, kind, d[0]);
                int move = kind == 5 ? 0 : kind == 6 ? d[1] : d[0];
                Check.due("KIND " + kind + " by " + d[0], x.talked(0, 1, 1, 0), 50 + move);
            }
        }
    }

    /** "KIND 5 (TURNED) alone: .. have PROOF 1 (DOUBT does not move)". */
    private static void turnedAlone() {
        for (int kind = 0; kind <= 7; kind++) {
            ColdRing x = hall("move 10", "stop if proof=1");
            x.talker(5, 0, 0, 0, 0);
            x.talker(4, 0, 0, 20, 1);
            sentSheet(x, 77, kind, 50);
            Check.due("PROOF by KIND " + kind, x.talked(0, 1, 1, 1), kind == 5 ? 1 : 0);
            Check.due("DOUBT by KIND " + kind, x.talked(0, 1, 1, 0), kind == 5 ? 20 : kind == 6 ? 25 : 30);
            Check.due("STOPPED by KIND " + kind, x.talk(0, 1, 1), kind == 5 ? 1 : 0);
            Check.due("MINUTE by KIND " + kind, x.talk(0, 1, 2), kind == 5 ? 77 : NONE);
        }
    }

    /** "those with a lower RANK than its TALKER's", in its ROOMS. */
    private static void lowerRankThanItsTalkers() {
        for (int rank = 0; rank <= 9; rank++) {
            ColdRing x = hall("move 0", "stop");
            x.talker(rank, 0, 0, 0, 0);
            for (int other = 0; other <= 9; other++) {
                x.talker(other, 0, 0, 0, other % 2);
            }
            x.talker(0, 1, 0, 0, 1);
            sentSheet(x, 5, 5, 0);
            for (int other = 0; other <= 9; other++) {
                Check.due("PROOF of RANK " + other + " by " + rank, x.talked(0, 1, other + 1, 1), other < rank ? 1 : 0);
            }
            Check.due("PROOF of its own one", x.talked(0, 1, 0, 1), 0);
            Check.due("PROOF in another ROOM", x.talked(0, 1, 11, 1), 0);
        }
    }

    /** "have PROOF 1 from then on"; "PROOF of all is 0 at first". */
    private static void proofFromThenOn() {
        ColdRing x = hall("move 10;move 1 if proof=1", "stop if proof=1");
        x.talker(5, 0, 0, 0, 0);
        x.talker(4, 0, 0, 0, 1);
        for (int minute : new int[] {9, 11}) {
            sentSheet(x, minute, 0, 0);
        }
        sentSheet(x, 10, 5, 0);
        Check.due("10 ahead of it, 1 behind it", x.talked(0, 1, 1, 0), 11);
        sentSheet(x, 10, 0, 0);
        Check.due("behind it by number", x.talked(0, 1, 1, 0), 12);
        sentSheet(x, 400, 5, 0);
        Check.due("PROOF once more", x.talked(0, 1, 1, 1), 1);
        x.send(2, 0);
        Check.due("PROOF at the very end", x.talked(0, 1, 1, 0), 30);
        x.send(4, 0);
        Check.due("PROOF is 0 at first, each time", x.talked(0, 1, 1, 1), 0);
    }

    /** "the MINUTE of the first SHEET behind which a TALKER has PROOF 1 (2; NONE without)". */
    private static void minuteOfTheFirstProof() {
        for (int minute : new int[] {0, 1, 399, 400}) {
            ColdRing x = hall("move 0", "stop");
            x.talker(5, 0, 0, 0, 0);
            Check.due("no SHEET", x.talk(0, 1, 2), NONE);
            sentSheet(x, minute, 5, 0);
            Check.due("nobody else", x.talk(0, 1, 2), NONE);
            x.talker(5, 0, 0, 0, 1);
            Check.due("the same RANK", x.talk(0, 1, 2), NONE);
            x.talker(4, 1, 0, 0, 1);
            Check.due("another ROOM", x.talk(0, 1, 2), NONE);
            x.talker(4, 0, 0, 0, 0);
            Check.due("without VOTE, too", x.talk(0, 1, 2), minute);
            x.send(0, 0);
            Check.due("not SENT", x.talk(0, 1, 2), NONE);
        }
        ColdRing x = hall("move 0", "stop");
        x.talker(5, 0, 0, 0, 0);
        x.talker(4, 0, 0, 0, 0);
        sentSheet(x, 30, 5, 0);
        sentSheet(x, 20, 5, 0);
        x.send(x.sheet(1, 10, 5, 0, 7), 1);
        Check.due("the first that reaches one", x.talk(0, 1, 2), 20);
        x.send(1, 0);
        Check.due("the next", x.talk(0, 1, 2), 30);
    }

    /** "It is STOPPED, if NEED or more do". */
    private static void needOrMore() {
        ColdRing x = hall("move 0", "stop if doubt>49");
        for (int t = 0; t < 12; t++) {
            x.talker(0, 0, 0, t < 6 ? 50 : 49, 1);
        }
        Check.due("how many", x.talk(0, 1, 0), 6);
        for (int need = 1; need <= 12; need++) {
            x.terms(1, need);
            Check.due("NEED " + need, x.talk(0, 1, 1), need <= 6 ? 1 : 0);
            Check.due("as many as ever", x.talk(0, 1, 0), 6);
            Check.due("LEAST by NEED " + need, x.least(0, 1), need <= 6 ? 0 : NONE);
            Check.due("WORLDS by NEED " + need, x.worlds(0, 1, 3, 0), need <= 6 ? 3 : 0);
        }
        Check.due("nobody", hall("stop", "stop").talk(0, 1, 1), 0);
        Check.due("nobody", hall("stop", "stop").talk(0, 1, 0), 0);
    }

    /** "those with VOTE for whom "stop" HOLDS". */
    private static void voteAlone() {
        ColdRing x = hall("move 0", "stop");
        x.talker(0, 0, 0, 0, 0);
        Check.due("without VOTE", x.talk(0, 1, 0), 0);
        Check.due("without VOTE", x.talked(0, 1, 0, 2), 0);
        x.talker(0, 0, 0, 0, 1);
        Check.due("with VOTE", x.talk(0, 1, 0), 1);
        Check.due("with VOTE", x.talked(0, 1, 1, 2), 1);
        for (String law : new String[] {"move 0", "stop if 1=2", "stop if 1/0=1", "stop if not 1/0=1", "odds 1;key 1"}) {
            ColdRing y = hall("move 0", law);
            y.talker(0, 0, 0, 0, 1);
            Check.due("it does not HOLD: " + law, y.talk(0, 1, 0), 0);
        }
        ColdRing z = hall("move 0", "stop if doubt=1;stop if doubt=2;stop if 1/0=0");
        for (int doubt = 0; doubt <= 3; doubt++) {
            z.talker(0, 0, 0, doubt, 1);
            Check.due("any CLAUSE that HOLDS, by " + doubt, z.talked(0, 1, doubt, 2), doubt == 1 || doubt == 2 ? 1 : 0);
        }
    }

    /** "(asked without a SHEET)". */
    private static void stopIsAskedWithoutASheet() {
        ColdRing x = pair("move 1", "stop if kind=0 and weight=0 and minute=0", 0);
        sentSheet(x, 400, 7, 50);
        Check.due("kind, weight, minute are 0", x.talk(0, 1, 0), 1);
        Check.due("for one TALKER, too", x.talked(0, 1, 1, 2), 1);
        x.sheet(0, 3, 3, 3, 1);
        Check.due("for PARTS, too", x.parts(0, 1, 1), 0);
        Check.due("for LEAST, too", x.least(0, 1), 0);
        Check.due("for WORLDS, too", x.worlds(0, 1, 60, 5), 60);
    }

    /** "(what 0) .. (1) .. (2 ..). NONE." */
    private static void talkArguments() {
        Check.edges("moves", 0, 1, NONE, t -> withSheets(1).talk(t, 0, 0));
        Check.edges("stops", 0, 1, NONE, t -> withSheets(1).talk(0, t, 0));
        Check.edges("what", 0, 2, NONE, what -> {
            ColdRing x = withSheets(1);
            x.talker(4, 0, 0, 0, 0);
            sentSheet(x, 7, 5, 0);
            return x.talk(0, 1, what);
        });
        Check.due("no TEXT", new ColdRing().talk(0, 0, 0), NONE);
        Check.due("no TEXT", new ColdRing().talk(0, 0, 1), NONE);
        Check.due("no TALKER", hall("stop", "stop").talk(0, 1, 2), NONE);
    }

    /** "Of a TALKER at the end of a TALK .. NONE." */
    private static void talkedArguments() {
        Check.edges("moves", 0, 1, NONE, t -> withSheets(1).talked(t, 0, 0, 0));
        Check.edges("stops", 0, 1, NONE, t -> withSheets(1).talked(0, t, 0, 0));
        Check.edges("TALKER", 0, 1, NONE, t -> withSheets(1).talked(0, 1, t, 0));
        Check.edges("what", 0, 2, NONE, what -> withSheets(1).talked(0, 1, 0, what));
        Check.due("no TALKER", hall("stop", "stop").talked(0, 1, 0, 0), NONE);
    }

    private static void leastDue(String call, ColdRing x, int... want) {
        Check.due(call, x.least(0, 1), want.length);
        for (int i = 0; i < want.length; i++) {
            Check.due(call + ", the " + i, x.more(0, 1, i), want[i]);
        }
        Check.due(call + ", behind the last", x.more(0, 1, want.length), NONE);
        Check.due(call + ", below the first", x.more(0, 1, -1), NONE);
    }

    private static ColdRing weights(int doubt, int... weights) {
        ColdRing x = pair("move weight", "stop if doubt>99", doubt);
        for (int weight : weights) {
            x.sheet(0, 0, 0, weight, 1);
        }
        return x;
    }

    /** "the fewest SHEETS that are not SENT which, sent too, make that it is STOPPED". */
    private static void leastIsTheFewest() {
        leastDue("it is STOPPED as it is", weights(100, 50, 50));
        leastDue("one of them", weights(99, 0, 1), 1);
        leastDue("one rather than two", weights(50, 25, 25, 49, 50), 3);
        leastDue("two rather than three", weights(40, 20, 20, 20, 30, 30), 3, 4);
        ColdRing x = weights(50, 25, 25, 25, 50);
        x.send(0, 1);
        leastDue("one more beside what is SENT", x, 1);
        x.send(1, 1);
        leastDue("none more", x);
        x.send(2, 1);
        leastDue("none more", x);
        x.send(3, 1);
        leastDue("none left, STOPPED", x);
    }

    /** "of alike ones the first as rows of numbers", whatever their MINUTES. */
    private static void leastIsTheFirstRow() {
        leastDue("0, 1", weights(0, 50, 50, 50), 0, 1);
        leastDue("0, 3 ahead of 1, 2", weights(10, 50, 45, 45, 40), 0, 1);
        leastDue("0, 3 ahead of 1, 2", weights(10, 40, 45, 45, 50), 0, 3);
        for (int turn = 0; turn < 2; turn++) {
            ColdRing x = pair("move weight", "stop if doubt>99", 10);
            int[] weights = {41, 0, 0, 45, 45, 0, 0, 0, 0, 0, 0, 49};
            for (int s = 0; s < 12; s++) {
                x.sheet(0, turn == 0 ? s : 400 - s, 0, weights[s], 1);
            }
            leastDue("0, 11 ahead of 3, 4", x, 0, 11);
            x.send(11, 1);
            leastDue("0", x, 0);
            x.send(0, 1);
            x.send(11, 0);
            leastDue("11", x, 11);
        }
    }

    /** "NONE" where none is enough. */
    private static void leastOfNone() {
        Check.due("one too few", weights(49, 25, 25).least(0, 1), NONE);
        Check.due("nothing of it", weights(49, 25, 25).more(0, 1, 0), NONE);
        leastDue("just enough", weights(50, 25, 25), 0, 1);
        Check.due("no SHEET", weights(99).least(0, 1), NONE);
        Check.due("no TALKER", hall("stop", "stop").least(0, 1), NONE);
        ColdRing x = weights(50, -50, 50);
        x.send(0, 1);
        Check.due("what is SENT stays SENT", x.least(0, 1), NONE);
        x.send(0, 0);
        leastDue("without it", x, 1);
        Check.edges("moves", 0, 1, NONE, t -> twins().least(t, 0));
        Check.edges("stops", 0, 1, NONE, t -> twins().least(0, t));
    }

    /** Two TEXTS that say the same, of what moves and of what stops; one SHEET that is enough. */
    private static ColdRing twins() {
        ColdRing x = pair("move 50;stop if doubt>49", "move 50;stop if doubt>49", 0);
        x.sheet(0, 0, 0, 0, 1);
        return x;
    }

    /** All twelve, and eleven of twelve. */
    private static void leastOfAll() {
        ColdRing x = pair("move 8", "stop if doubt>99", 4);
        for (int s = 0; s < 12; s++) {
            x.sheet(0, 400 - s, 0, 0, 1);
        }
        leastDue("all twelve", x, 0, 1, 2, 3, 4, 5, 6, 7, 8, 9, 10, 11);
        ColdRing y = pair("move 8", "stop if doubt>99", 3);
        ColdRing z = pair("move 8", "stop if doubt>99", 12);
        for (int s = 0; s < 12; s++) {
            y.sheet(0, 400 - s, 0, 0, 1);
            z.sheet(0, 400 - s, 0, 0, 1);
        }
        Check.due("not even all twelve", y.least(0, 1), NONE);
        leastDue("eleven of twelve", z, 0, 1, 2, 3, 4, 5, 6, 7, 8, 9, 10);
        for (int s = 0; s < 12; s++) {
            y.send(s, 1);
            x.send(s, 1);
        }
        Check.due("all are SENT, not STOPPED", y.least(0, 1), NONE);
        leastDue("all are SENT, STOPPED", x);
    }

    /** "The i-th SHEET of LEAST; NONE." */
    private static void moreArguments() {
        Check.edges("i", 0, 1, NONE, i -> weights(50, 25, 25).more(0, 1, i));
        Check.edges("moves", 0, 1, NONE, t -> twins().more(t, 0, 0));
        Check.edges("stops", 0, 1, NONE, t -> twins().more(0, t, 0));
        Check.due("it is STOPPED as it is", weights(100, 50).more(0, 1, 0), NONE);
        Check.due("no TEXT", new ColdRing().more(0, 0, 0), NONE);
        Check.due("no TEXT", new ColdRing().least(0, 0), NONE);
    }

    /** "how many with VOTE do otherwise than they did, if one SHEET more is sent". */
    private static void partsOfThoseWithVote() {
        ColdRing x = hall("move weight", "stop if doubt>49");
        x.talker(0, 2, 0, 0, 0);
        for (int doubt = 47; doubt <= 51; doubt++) {
            x.talker(0, 0, 0, doubt, 1);
        }
        x.talker(0, 0, 0, 49, 0);
        int[][] due = {{0, 0}, {1, 1}, {2, 2}, {3, 3}, {4, 3}, {-1, 1}, {-2, 2}, {-3, 2}};
        for (int[] d : due) {
            int sheet = x.sheet(0, 0, 0, d[0], 1);
            Check.due("PARTS by " + d[0], x.parts(0, 1, sheet), d[1]);
        }
        int elsewhere = x.sheet(0, 0, 0, 50, 2);
        Check.due("in another ROOM", x.parts(0, 1, elsewhere), 0);
        Check.due("NEED does not matter", x.terms(1, 12), 1);
        Check.due("PARTS by 3", x.parts(0, 1, 3), 3);
        Check.due("nothing was sent", x.count(5), 0);
    }

    /** "NONE (it is SENT, too)". */
    private static void partsArguments() {
        Check.edges("SHEET", 0, 1, NONE, s -> withSheets(2).parts(0, 1, s));
        Check.edges("moves", 0, 1, NONE, t -> withSheets(2).parts(t, 1, 0));
        Check.edges("stops", 0, 1, NONE, t -> withSheets(2).parts(0, t, 0));
        ColdRing x = withSheets(2);
        Check.due("not SENT", x.parts(0, 1, 0), 1);
        x.send(0, 1);
        Check.due("SENT", x.parts(0, 1, 0), NONE);
        Check.due("the other, which makes no difference now", x.parts(0, 1, 1), 0);
        x.send(0, 0);
        Check.due("not SENT any more", x.parts(0, 1, 0), 1);
    }

    /** "The SHEET that PARTS most (the lowest); NONE." */
    private static void askIsTheLowest() {
        Check.due("no SHEET", withSheets(0).ask(0, 1), NONE);
        Check.due("alike ones", withSheets(3).ask(0, 1), 0);
        ColdRing x = withSheets(2);
        x.send(0, 1);
        Check.due("those that are not SENT", x.ask(0, 1), 1);
        x.send(1, 1);
        Check.due("all are SENT", x.ask(0, 1), NONE);
        ColdRing y = weights(90, 5, 9, 10, 50, 11);
        Check.due("the first that PARTS one", y.ask(0, 1), 2);
        y.send(2, 1);
        Check.due("nothing PARTS any more: the lowest", y.ask(0, 1), 0);
        y.sheet(0, 0, 0, -50, 1);
        Check.due("the one that takes it back", y.ask(0, 1), 5);
        ColdRing full = weights(90, 0, 0, 0, 0, 0, 0, 0, 0, 0, 0, 0, 10);
        Check.due("the twelfth", full.ask(0, 1), 11);
        Check.edges("moves", 0, 1, NONE, t -> withSheets(2).ask(t, 1));
        Check.edges("stops", 0, 1, NONE, t -> withSheets(2).ask(0, t));
    }

    /** "1 .. 60 TALKS", "the SEED (0 .. 1,000,000)". */
    private static void worldsBounds() {
        Check.edges("n", 1, 60, NONE, n -> withSheets(1).worlds(0, 1, n, 0));
        Check.edges("SEED", 0, 1_000_000, NONE, seed -> withSheets(1).worlds(0, 1, 1, seed));
        Check.edges("moves", 0, 1, NONE, t -> withSheets(1).worlds(t, 1, 1, 0));
        Check.edges("stops", 0, 1, NONE, t -> withSheets(1).worlds(0, t, 1, 0));
        ColdRing x = hall("stop", "stop");
        Check.due("nobody", x.worlds(0, 1, 60, 0), 0);
        x.talker(0, 0, 0, 0, 1);
        Check.due("one WORLD, always STOPPED", x.worlds(0, 1, 1, 0), 1);
        Check.due("60 WORLDS, always STOPPED", x.worlds(0, 1, 60, 0), 60);
        Check.due("no TEXT", new ColdRing().worlds(0, 0, 1, 0), NONE);
    }

    private static long next(long s) {
        return (s * 1103 + 12345) % 1_000_003;
    }

    /** "a DRAW of 100: below HURRY it is passed by"; "a DRAW of n is the new s modulo n". */
    private static void drawBelowHurry() {
        for (int seed : new int[] {0, 1, 2, 906, 907, 999_999, 1_000_000}) {
            int draw = (int) (next(seed) % 100);
            ColdRing x = withSheets(1);
            x.send(0, 1);
            x.terms(2, draw);
            Check.due("the DRAW is HURRY", x.worlds(0, 1, 1, seed), 1);
            x.terms(2, draw + 1);
            Check.due("the DRAW is below HURRY by one", x.worlds(0, 1, 1, seed), 0);
            if (draw > 0) {
                x.terms(2, draw - 1);
                Check.due("the DRAW is above HURRY by one", x.worlds(0, 1, 1, seed), 1);
            }
            x.terms(2, 0);
            Check.due("HURRY 0: none is passed by", x.worlds(0, 1, 60, seed), 60);
            x.terms(2, 100);
            Check.due("HURRY 100: all are passed by", x.worlds(0, 1, 60, seed), 0);
        }
    }

    /** "one behind the other": the DRAWS go on from one TALK to the next, and each TALK begins anew. */
    private static void drawsGoOn() {
        for (int hurry : new int[] {1, 20, 50, 80, 99}) {
            for (int seed : new int[] {0, 5, 123_456, 1_000_000}) {
                ColdRing x = withSheets(1);
                x.send(0, 1);
                x.terms(2, hurry);
                long s = seed;
                int stopped = 0;
                for (int n = 1; n <= 60; n++) {
                    s = next(s);
                    stopped += s % 100 < hurry ? 0 : 1;
                    Check.due(n + " WORLDS by HURRY " + hurry, x.worlds(0, 1, n, seed), stopped);
                }
            }
        }
    }

    /** "ahead of each SHEET that is SENT, by their turns", whoever sees it. */
    private static void drawsOfSentOnes() {
        int[] minutes = {50, 10, 50, 400, 0, 10};
        int[] turns = {4, 1, 5, 0, 2, 3};
        int[] sent = {1, 0, 1, 1, 1, 1};
        int[] rooms = {1, 1, 2, 1, 0, 1};
        for (int hurry : new int[] {10, 35, 60, 85}) {
            for (int seed = 0; seed < 40; seed++) {
                ColdRing x = pair("move weight;move doubt if kind=1", "stop if doubt>12", 3);
                for (int s = 0; s < 6; s++) {
                    x.sheet(0, minutes[s], s % 2, s + 1, rooms[s]);
                    x.send(s, sent[s]);
                }
                x.terms(2, hurry);
                long s = seed;
                int stopped = 0;
                for (int world = 0; world < 20; world++) {
                    int doubt = 3;
                    for (int sheet : turns) {
                        s = sent[sheet] == 1 ? next(s) : s;
                        if (sent[sheet] == 1 && s % 100 >= hurry && rooms[sheet] == 1) {
                            doubt += sheet % 2 == 1 ? doubt : sheet + 1;
                        }
                    }
                    stopped += doubt > 12 ? 1 : 0;
                }
                Check.due("WORLDS by HURRY " + hurry, x.worlds(0, 1, 20, seed), stopped);
            }
        }
    }
}
