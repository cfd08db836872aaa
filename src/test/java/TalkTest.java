/** Promises 26 to 35: talker, sheet, send, talk, talked, least, more, parts, ask, worlds. */
public final class TalkTest {
    private static final int NONE = ColdRing.NONE;

    private TalkTest() {
    }

    public static void main(String[] args) {
        talkers();
        sheets();
        send();
        whoIsShown();
        order();
        turned();
        hurried();
        bounds();
        words();
        stopping();
        least();
        leastIsFirst();
        leastForgets();
        leastOfTwelve();
        parts();
        worlds();
        wrongNumbers();
        Check.finish("TalkTest");
    }

    private static void talkers() {
        ColdRing x = new ColdRing();
        Check.due("the least", x.talker(0, 0, 0, 0, 0), 0);
        Check.due("the most", x.talker(9, 2, 1, 100, 1), 1);
        int[][] wrong = {{-1, 0, 0, 0, 0}, {10, 0, 0, 0, 0}, {0, -1, 0, 0, 0}, {0, 3, 0, 0, 0}, {0, 0, -1, 0, 0},
            {0, 0, 2, 0, 0}, {0, 0, 0, -1, 0}, {0, 0, 0, 101, 0}, {0, 0, 0, 0, -1}, {0, 0, 0, 0, 2}};
        for (int[] w : wrong) {
            Check.due("talker that can't be", x.talker(w[0], w[1], w[2], w[3], w[4]), -1);
            Check.due("status", x.status(), -1);
        }
        for (int t = 2; t < 12; t++) {
            Check.due("talker " + t, x.talker(0, 0, 0, 0, 0), t);
        }
        Check.due("the 13th", x.talker(0, 0, 0, 0, 0), -5);
        Check.due("status", x.status(), -5);
        Check.due("the 13th that can't be", x.talker(0, 0, 0, 0, 2), -1);
        Check.due("TALKERS", x.count(3), 12);
    }

    private static void sheets() {
        ColdRing x = new ColdRing();
        Check.due("no TALKER", x.sheet(0, 0, 0, 0, 0), -2);
        Check.due("status", x.status(), -2);
        x.talker(0, 0, 0, 0, 0);
        Check.due("the least", x.sheet(0, 0, 0, -50, 0), 0);
        Check.due("the most", x.sheet(0, 400, 7, 50, 7), 1);
        int[][] wrong = {{0, -1, 0, 0, 0}, {0, 401, 0, 0, 0}, {0, 0, -1, 0, 0}, {0, 0, 8, 0, 0}, {0, 0, 0, -51, 0},
            {0, 0, 0, 51, 0}, {0, 0, 0, 0, -1}, {0, 0, 0, 0, 8}, {5, 0, 0, 0, 8}};
        for (int[] w : wrong) {
            Check.due("sheet that can't be", x.sheet(w[0], w[1], w[2], w[3], w[4]), -1);
        }
        Check.due("of nobody", x.sheet(1, 0, 0, 0, 0), -2);
        Check.due("of nobody", x.sheet(-1, 0, 0, 0, 0), -2);
        for (int s = 2; s < 12; s++) {
            Check.due("sheet " + s, x.sheet(0, 0, 0, 0, 0), s);
        }
        Check.due("the 13th", x.sheet(0, 0, 0, 0, 0), -5);
        Check.due("the 13th of nobody", x.sheet(1, 0, 0, 0, 0), -2);
        Check.due("SHEETS", x.count(4), 12);
        Check.due("SENT", x.count(5), 0);
    }

    private static void send() {
        ColdRing x = new ColdRing();
        Check.due("no SHEET", x.send(0, 1), -2);
        x.talker(0, 0, 0, 0, 0);
        x.sheet(0, 0, 0, 0, 0);
        Check.due("not SENT at first", x.send(0, 1), 0);
        Check.due("SENT", x.count(5), 1);
        Check.due("SENT", x.send(0, 0), 1);
        Check.due("not SENT", x.send(0, 0), 0);
        Check.due("can't be", x.send(0, 2), -1);
        Check.due("can't be", x.send(0, -1), -1);
        Check.due("-1 ahead of -2", x.send(9, 2), -1);
        Check.due("no such SHEET", x.send(1, 1), -2);
        Check.due("no such SHEET", x.send(-1, 1), -2);
        Check.due("status", x.status(), -2);
        Check.due("SENT", x.count(5), 0);
    }

    private static ColdRing hall(String moves, String stops) {
        ColdRing x = new ColdRing();
        Check.text(x, moves);
        Check.text(x, stops);
        return x;
    }

    private static void sentSheet(ColdRing x, int talker, int minute, int kind, int weight, int rooms) {
        x.send(x.sheet(talker, minute, kind, weight, rooms), 1);
    }

    private static void doubtDue(ColdRing x, int... want) {
        for (int t = 0; t < want.length; t++) {
            Check.due("DOUBT of " + t, x.talked(0, 1, t, 0), want[t]);
        }
    }

    private static void whoIsShown() {
        ColdRing x = hall("move weight", "stop");
        for (int t = 0; t < 4; t++) {
            x.talker(5, t % 3, 0, 20, t % 2);
        }
        x.sheet(0, 0, 0, 9, 7);
        doubtDue(x, 20, 20, 20, 20);
        x.send(0, 1);
        doubtDue(x, 20, 29, 29, 29);
        sentSheet(x, 1, 0, 0, 1, 1);
        doubtDue(x, 21, 29, 29, 30);
        sentSheet(x, 1, 0, 0, 2, 4);
        doubtDue(x, 21, 29, 31, 30);
        sentSheet(x, 1, 0, 0, 4, 2);
        sentSheet(x, 1, 0, 0, 8, 0);
        doubtDue(x, 21, 29, 31, 30);
        x.send(0, 0);
        doubtDue(x, 21, 20, 22, 21);
        Check.due("a TALK changes nothing", x.talked(0, 1, 2, 0), 22);
    }

    /** Doubling and adding do not commute, so what is shown first is seen. */
    private static void order() {
        ColdRing x = hall("move weight;move doubt if kind=1", "stop if doubt>0");
        x.talker(0, 0, 0, 0, 0);
        x.talker(0, 0, 0, 5, 1);
        sentSheet(x, 0, 30, 0, 3, 1);
        sentSheet(x, 0, 20, 1, 0, 1);
        doubtDue(x, 0, 13);
        sentSheet(x, 0, 30, 1, 0, 1);
        doubtDue(x, 0, 26);
        sentSheet(x, 0, 30, 0, 1, 1);
        doubtDue(x, 0, 27);
        sentSheet(x, 0, 0, 0, 1, 1);
        doubtDue(x, 0, 31);
        sentSheet(x, 0, 400, 1, 0, 1);
        doubtDue(x, 0, 62);
    }

    private static void turned() {
        ColdRing x = hall("move 10+proof*20", "stop if proof=1");
        x.talker(5, 0, 0, 0, 1);
        x.talker(4, 0, 0, 0, 1);
        x.talker(5, 0, 0, 0, 1);
        x.talker(0, 1, 0, 0, 1);
        x.talker(0, 0, 0, 0, 0);
        Check.due("no PROOF", x.talk(0, 1, 2), NONE);
        sentSheet(x, 0, 50, 5, 50, 1);
        doubtDue(x, 0, 0, 0, 0, 0);
        int[] proof = {0, 1, 0, 0, 1};
        for (int t = 0; t < 5; t++) {
            Check.due("PROOF of " + t, x.talked(0, 1, t, 1), proof[t]);
        }
        Check.due("those with VOTE", x.talk(0, 1, 0), 1);
        Check.due("its MINUTE", x.talk(0, 1, 2), 50);
        sentSheet(x, 3, 49, 0, 0, 1);
        doubtDue(x, 10, 10, 10, 0, 10);
        sentSheet(x, 3, 50, 0, 0, 1);
        doubtDue(x, 20, 40, 20, 0, 40);
        sentSheet(x, 3, 7, 5, 0, 7);
        Check.due("nobody is below RANK 0", x.talk(0, 1, 2), 50);
        sentSheet(x, 1, 0, 5, 0, 1);
        Check.due("MINUTE 0", x.talk(0, 1, 2), 0);
    }

    private static void hurried() {
        ColdRing x = hall("move weight", "stop");
        x.talker(0, 0, 0, 0, 0);
        x.talker(0, 0, 0, 50, 0);
        sentSheet(x, 0, 0, 6, 21, 1);
        doubtDue(x, 0, 60);
        sentSheet(x, 0, 1, 6, -21, 1);
        doubtDue(x, 0, 50);
        sentSheet(x, 0, 2, 7, 21, 1);
        doubtDue(x, 0, 71);
        sentSheet(x, 0, 2, 6, 1, 1);
        doubtDue(x, 0, 71);
    }

    private static void bounds() {
        ColdRing x = hall("move weight;move 1000*1000*1000 if kind=3;move 0-1000*1000*1000 if kind=4", "stop if kind=0");
        x.talker(0, 0, 0, 0, 0);
        x.talker(0, 0, 0, 90, 0);
        sentSheet(x, 0, 0, 0, 50, 1);
        sentSheet(x, 0, 1, 0, -50, 1);
        doubtDue(x, 0, 50);
        sentSheet(x, 0, 2, 3, 0, 1);
        doubtDue(x, 0, 100);
        sentSheet(x, 0, 3, 4, 0, 1);
        doubtDue(x, 0, 0);
        sentSheet(x, 0, 4, 0, 7, 1);
        doubtDue(x, 0, 7);
        Check.due("without 'move'", x.talked(1, 1, 1, 0), 90);
    }

    private static void words() {
        ColdRing x = hall("move rank*10+room+side*5+kind*7+weight+minute/100+warmth+press+ring+worst",
            "stop if kind=0 and weight=0 and minute=0 and rank=3 and room=2 and side=1 and doubt=72");
        x.talker(9, 0, 0, 0, 1);
        x.talker(3, 2, 1, 12, 1);
        sentSheet(x, 0, 300, 2, 6, 4);
        doubtDue(x, 0, 72);
        Check.due("asked without a SHEET", x.talked(0, 1, 1, 2), 1);
        Check.due("the other", x.talked(0, 1, 0, 2), 0);
    }

    private static void stopping() {
        ColdRing x = hall("move 0", "stop if doubt>49;stop if rank=9");
        x.talker(9, 0, 0, 0, 1);
        x.talker(0, 0, 0, 50, 1);
        x.talker(0, 0, 0, 49, 1);
        x.talker(9, 0, 0, 100, 0);
        Check.due("how many STOP", x.talk(0, 1, 0), 2);
        Check.due("without VOTE", x.talked(0, 1, 3, 2), 0);
        for (int need = 1; need <= 3; need++) {
            x.terms(1, need);
            Check.due("NEED " + need, x.talk(0, 1, 1), need <= 2 ? 1 : 0);
        }
        Check.due("a TEXT without 'stop'", x.talk(0, 0, 0), 0);
        Check.text(x, "stop");
        Check.due("'stop' alone", x.talk(0, 2, 0), 3);
    }

    private static void leastDue(ColdRing x, int... want) {
        Check.due("least", x.least(0, 1), want.length);
        for (int i = 0; i < want.length; i++) {
            Check.due("more " + i, x.more(0, 1, i), want[i]);
        }
        Check.due("behind the last", x.more(0, 1, want.length), NONE);
        Check.due("below the first", x.more(0, 1, -1), NONE);
    }

    private static void least() {
        ColdRing x = hall("move weight", "stop if doubt>99");
        Check.due("nobody", x.least(0, 1), NONE);
        x.talker(0, 0, 0, 0, 0);
        x.talker(0, 0, 0, 40, 1);
        Check.due("no SHEETS", x.least(0, 1), NONE);
        x.sheet(0, 10, 0, 20, 1);
        x.sheet(0, 20, 0, 30, 1);
        x.sheet(0, 30, 0, 40, 1);
        leastDue(x, 0, 2);
        x.send(1, 1);
        leastDue(x, 2);
        x.send(2, 1);
        leastDue(x);
        x.send(2, 0);
        x.send(1, 0);
        x.talker(0, 0, 0, 10, 1);
        leastDue(x, 0, 2);
        x.terms(1, 2);
        leastDue(x, 0, 1, 2);
        x.terms(1, 3);
        Check.due("fewer with VOTE than NEED", x.least(0, 1), NONE);
        Check.due("none of it", x.more(0, 1, 0), NONE);
    }

    /** Shown by MINUTES the rows come in another order than by numbers. */
    private static void leastIsFirst() {
        ColdRing x = hall("move weight", "stop if doubt>99");
        x.talker(0, 0, 0, 0, 0);
        x.talker(0, 0, 0, 50, 1);
        int[] minutes = {90, 10, 80, 20, 70, 30};
        int[] weights = {10, 40, 25, 40, 25, 5};
        for (int s = 0; s < 6; s++) {
            x.sheet(0, minutes[s], 0, weights[s], 1);
        }
        leastDue(x, 0, 1);
        x.send(1, 1);
        leastDue(x, 0);
        x.send(1, 0);
        x.send(0, 1);
        leastDue(x, 1);
        x.send(0, 0);
        x.sheet(0, 0, 0, 50, 1);
        leastDue(x, 6);
    }

    private static void leastForgets() {
        ColdRing x = hall("move weight", "stop if doubt>49");
        x.talker(0, 0, 0, 0, 0);
        x.talker(0, 0, 0, 10, 1);
        x.sheet(0, 0, 0, 40, 1);
        leastDue(x, 0);
        x.image(0);
        x.sheet(0, 1, 0, -40, 1);
        x.send(1, 1);
        Check.due("a SHEET against it was sent", x.least(0, 1), NONE);
        x.talker(0, 0, 0, 60, 1);
        leastDue(x, 0);
        x.terms(1, 2);
        Check.due("two must STOP it", x.least(0, 1), NONE);
        x.back(0);
        leastDue(x, 0);
        x.send(0, 1);
        leastDue(x);
        Check.text(x, "move 0");
        Check.due("by another TEXT", x.least(2, 1), NONE);
        leastDue(x);
        Check.due("by another TEXT", x.more(2, 1, 0), NONE);
    }

    private static void leastOfTwelve() {
        ColdRing x = hall("move 8", "stop if doubt>95");
        x.talker(0, 0, 0, 0, 1);
        for (int t = 1; t < 12; t++) {
            x.talker(0, 0, 0, 0, 1);
        }
        for (int s = 0; s < 12; s++) {
            x.sheet(0, 400 - s, 0, 0, 1);
        }
        x.terms(1, 11);
        leastDue(x, 0, 1, 2, 3, 4, 5, 6, 7, 8, 9, 10, 11);
        x.terms(1, 12);
        Check.due("its own one is left out", x.least(0, 1), NONE);
    }

    private static void parts() {
        ColdRing x = hall("move weight", "stop if doubt>49");
        Check.due("no SHEET to ask for", x.ask(0, 1), NONE);
        x.talker(0, 2, 0, 0, 0);
        x.talker(0, 0, 0, 40, 1);
        x.talker(0, 0, 0, 45, 1);
        x.talker(0, 1, 0, 60, 1);
        x.talker(0, 1, 0, 45, 0);
        x.sheet(0, 0, 0, 1, 7);
        x.sheet(0, 0, 0, 7, 3);
        x.sheet(0, 0, 0, -20, 3);
        x.sheet(0, 0, 0, 10, 3);
        x.sheet(0, 0, 0, 15, 3);
        int[] want = {0, 1, 1, 2, 2};
        for (int s = 0; s < 5; s++) {
            Check.due("parts " + s, x.parts(0, 1, s), want[s]);
        }
        Check.due("the lowest of those that PART most", x.ask(0, 1), 3);
        x.send(3, 1);
        Check.due("it is SENT", x.parts(0, 1, 3), NONE);
        Check.due("back from both", x.parts(0, 1, 2), 2);
        Check.due("ask", x.ask(0, 1), 2);
        x.send(2, 1);
        x.send(1, 1);
        x.send(4, 1);
        Check.due("the only one left, which PARTS none", x.ask(0, 1), 0);
        x.send(0, 1);
        Check.due("none left", x.ask(0, 1), NONE);
        Check.due("no such SHEET", x.parts(0, 1, 5), NONE);
        Check.due("no such SHEET", x.parts(0, 1, -1), NONE);
    }

    private static int expectedWorlds(int worlds, int seed, int hurry, int sheets, int enough) {
        long s = seed;
        int stopped = 0;
        for (int w = 0; w < worlds; w++) {
            int shown = 0;
            for (int i = 0; i < sheets; i++) {
                s = (s * 1103 + 12345) % 1_000_003;
                shown += s % 100 < hurry ? 0 : 1;
            }
            stopped += shown >= enough ? 1 : 0;
        }
        return stopped;
    }

    private static void worlds() {
        ColdRing x = hall("move 10", "stop if doubt>39");
        x.talker(0, 0, 0, 0, 0);
        x.talker(0, 0, 0, 0, 1);
        for (int s = 0; s < 7; s++) {
            sentSheet(x, 0, 7 - s, 0, 0, 1);
        }
        x.sheet(0, 3, 0, 0, 1);
        for (int hurry : new int[] {0, 1, 37, 50, 63, 99, 100}) {
            x.terms(2, hurry);
            for (int seed : new int[] {0, 1, 777, 999_999, 1_000_000}) {
                for (int n : new int[] {1, 2, 33, 60}) {
                    Check.due("worlds by HURRY " + hurry, x.worlds(0, 1, n, seed), expectedWorlds(n, seed, hurry, 7, 4));
                }
            }
        }
        int[][] wrong = {{0, 0}, {61, 0}, {-1, 0}, {1, -1}, {1, 1_000_001}};
        for (int[] w : wrong) {
            Check.due("worlds that can't be", x.worlds(0, 1, w[0], w[1]), NONE);
        }
    }

    private static void wrongNumbers() {
        ColdRing x = hall("move 0", "stop");
        x.talker(0, 0, 0, 0, 1);
        x.sheet(0, 0, 0, 0, 7);
        int[][] texts = {{-1, 1}, {2, 1}, {0, -1}, {0, 2}};
        for (int[] t : texts) {
            for (int what = 0; what < 3; what++) {
                Check.due("talk", x.talk(t[0], t[1], what), NONE);
                Check.due("talked", x.talked(t[0], t[1], 0, what), NONE);
            }
            Check.due("least", x.least(t[0], t[1]), NONE);
            Check.due("more", x.more(t[0], t[1], 0), NONE);
            Check.due("parts", x.parts(t[0], t[1], 0), NONE);
            Check.due("ask", x.ask(t[0], t[1]), NONE);
            Check.due("worlds", x.worlds(t[0], t[1], 1, 0), NONE);
        }
        Check.due("talk", x.talk(0, 1, 3), NONE);
        Check.due("talk", x.talk(0, 1, -1), NONE);
        Check.due("talked", x.talked(0, 1, 1, 0), NONE);
        Check.due("talked", x.talked(0, 1, -1, 0), NONE);
        Check.due("talked", x.talked(0, 1, 0, 3), NONE);
        Check.due("talked", x.talked(0, 1, 0, -1), NONE);
        Check.due("none of it is REFUSED", x.status() + x.count(9) + x.count(10), 0);
    }
}
