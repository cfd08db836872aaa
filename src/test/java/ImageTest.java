import java.util.function.Consumer;
import java.util.function.ToLongFunction;

/** Promises 36 to 39: image, back, count, status. */
public final class ImageTest {
    private static final int NONE = ColdRing.NONE;

    private ImageTest() {
    }

    public static void main(String[] args) {
        numbers();
        allIsKept();
        whatIsNotKept();
        imagesStay();
        eachFieldIsKept();
        textsGoBack();
        counts();
        status();
        Check.finish("ImageTest");
    }

    private static void numbers() {
        ColdRing x = new ColdRing();
        Check.due("image(2)", x.image(2), -1);
        Check.due("image(-1)", x.image(-1), -1);
        Check.due("back(2)", x.back(2), -1);
        Check.due("back(-1)", x.back(-1), -1);
        Check.due("back(1)", x.back(1), -2);
        Check.due("status", x.status(), -2);
        Check.due("image(1)", x.image(1), 0);
        Check.due("back(0)", x.back(0), -2);
        Check.due("back(1)", x.back(1), 0);
        Check.due("status", x.status(), 0);
    }

    /** An evening in which everything has been told once. */
    private static ColdRing evening() {
        ColdRing x = new ColdRing();
        x.flight(60, 3, 2);
        x.ring(0, 1, 4);
        x.point(40, 9);
        Check.text(x, "odds 30;move weight");
        x.talker(3, 1, 0, 40, 1);
        x.talker(5, 1, 0, 40, 1);
        x.sheet(0, 10, 1, 20, 2);
        x.send(0, 1);
        x.terms(0, 11);
        x.terms(1, 2);
        x.terms(2, 30);
        x.terms(3, 44);
        return x;
    }

    private static void eveningDue(ColdRing x) {
        int[] counts = {1, 1, 1, 2, 1, 1, 1, 1};
        for (int what = 0; what < counts.length; what++) {
            Check.due("count(" + what + ")", x.count(what), counts[what]);
        }
        int[] of = {60, 3, 2, 4, 1, 0};
        for (int what = 0; what < of.length; what++) {
            Check.due("of(0, " + what + ")", x.of(0, what), of[what]);
        }
        Check.due("tenths", x.tenths(40, 0), 9);
        Check.due("odds", x.odds(0, 0, 0, 0), 30);
        Check.due("talked", x.talked(0, 0, 1, 0), 60);
        int[] terms = {11, 2, 30, 44};
        for (int what = 0; what < 4; what++) {
            Check.due("TERM " + what, x.terms(what, terms[what]), terms[what]);
        }
    }

    private static void changeAll(ColdRing x) {
        x.flight(-9, 1, 1);
        x.ring(0, 1, NONE);
        x.ring(0, 0, 1);
        x.point(40, 8);
        x.point(41, 7);
        Check.text(x, "odds 99");
        x.talker(0, 0, 0, 0, 0);
        x.sheet(1, 5, 0, 50, 2);
        x.sheet(0, 4, 0, 50, 2);
        x.send(0, 0);
        x.send(1, 1);
        x.send(2, 1);
        for (int what = 0; what < 4; what++) {
            x.terms(what, 7);
        }
    }

    private static void allIsKept() {
        for (int k = 0; k < 2; k++) {
            ColdRing x = evening();
            eveningDue(x);
            Check.due("image", x.image(k), 0);
            changeAll(x);
            Check.due("back", x.back(k), 0);
            eveningDue(x);
            Check.due("the next FLIGHT", x.flight(1, 1, 3), 1);
            Check.due("its RINGS are new", x.of(1, 3), 0);
            Check.due("the next SHEET", x.sheet(0, 0, 0, 0, 0), 1);
            Check.due("it is not SENT", x.send(1, 1), 0);
            Check.due("the next TEXT", Check.text(x, "odds 98"), 1);
            Check.due("it is the new one", x.odds(1, 0, 0, 0), 98);
        }
    }

    private static void whatIsNotKept() {
        ColdRing x = evening();
        Check.put(x, "odds 1");
        x.image(0);
        Check.put(x, "23");
        x.back(0);
        Check.due("the TAPE stays", x.count(8), 8);
        Check.due("the TAPE stays", x.text(), 1);
        Check.text(x, "odds Q");
        x.image(1);
        Check.due("FAULT", x.fault(), 5);
        Check.text(x, "stop Q");
        Check.text(x, "stop  Q");
        x.back(1);
        Check.due("FAULT stays", x.fault(), 6);
        Check.due("REFUSED stays", x.count(13), 3);
        x.back(0);
        Check.due("REFUSED stays", x.count(13), 3);
    }

    private static void imagesStay() {
        ColdRing x = new ColdRing();
        x.image(0);
        x.flight(10, 0, 1);
        x.image(1);
        x.ring(0, 0, 5);
        x.back(1);
        Check.due("as it was", x.of(0, 3), 0);
        x.ring(0, 0, 6);
        x.back(1);
        Check.due("as it was once more", x.of(0, 3), 0);
        x.back(0);
        Check.due("IMAGE 0", x.count(0), 0);
        x.back(1);
        Check.due("IMAGE 1 stays", x.count(0), 1);
        x.ring(0, 0, 7);
        x.image(0);
        x.ring(0, 0, 8);
        x.back(0);
        Check.due("IMAGE 0 kept anew", x.of(0, 3), 7);
        x.back(1);
        Check.due("IMAGE 1 is its own", x.of(0, 3), 0);
    }

    /** Two evenings that differ in one field alone: each IMAGE gives back its own. */
    private static void keptApart(String field, Consumer<ColdRing> one, Consumer<ColdRing> other, ToLongFunction<ColdRing> asked) {
        ColdRing x = new ColdRing();
        x.image(0);
        one.accept(x);
        long first = asked.applyAsLong(x);
        x.image(1);
        x.back(0);
        other.accept(x);
        long second = asked.applyAsLong(x);
        x.image(0);
        Check.due(field + " can be seen", first == second ? 0 : 1, 1);
        for (int i = 0; i < 2; i++) {
            x.back(1);
            Check.due(field + " of IMAGE 1", asked.applyAsLong(x), first);
            x.back(0);
            Check.due(field + " of IMAGE 0", asked.applyAsLong(x), second);
        }
    }

    private static void eachFieldIsKept() {
        keptApart("WARMTH", x -> x.flight(3, 0, 1), x -> x.flight(4, 0, 1), x -> x.of(0, 0));
        keptApart("PRESS", x -> x.flight(0, 3, 1), x -> x.flight(0, 4, 1), x -> x.of(0, 1));
        keptApart("RINGS", x -> x.flight(0, 0, 3), x -> x.flight(0, 0, 4), x -> x.of(0, 2));
        keptApart("SCORCH", x -> scorched(x, 3), x -> scorched(x, NONE), x -> x.of(0, 5) * 10 + x.of(0, 3));
        for (int what = 0; what < 4; what++) {
            int term = what;
            keptApart("TERM " + what, x -> x.terms(term, 7), x -> x.terms(term, 8), x -> asTermWas(x, term));
        }
        keptApart("a TEXT", x -> Check.text(x, "odds 3"), x -> Check.text(x, "odds 4"), x -> x.odds(0, 0, 0, 0));
        keptApart("a POINT's WARMTH", x -> x.point(3, 1), x -> x.point(4, 1), x -> x.tenths(3, 0));
        keptApart("a POINT's TENTHS", x -> x.point(3, 1), x -> x.point(3, 2), x -> x.tenths(3, 0));
        // RANK, ROOM, SIDE, DOUBT, VOTE of TALKER 1
        int[][] talkers = {{4, 0, 0, 10, 1}, {5, 0, 0, 10, 1}, {4, 1, 0, 10, 1}, {4, 0, 1, 10, 1}, {4, 0, 0, 11, 1},
            {4, 0, 0, 10, 0}};
        // TALKER, MINUTE, KIND, WEIGHT, ROOMS, SENT of a SHEET
        int[][] sheets = {{0, 9, 0, 5, 1, 1}, {1, 9, 0, 5, 1, 1}, {0, 8, 0, 5, 1, 1}, {0, 9, 1, 5, 1, 1}, {0, 9, 0, 6, 1, 1},
            {0, 9, 0, 5, 2, 1}, {0, 9, 0, 5, 1, 0}};
        for (int i = 1; i < talkers.length; i++) {
            int[] other = talkers[i];
            keptApart("field " + i + " of a TALKER", x -> talk(x, talkers[0], sheets[0]), x -> talk(x, other, sheets[0]),
                ImageTest::asTalked);
        }
        for (int i = 1; i < sheets.length; i++) {
            int[] other = sheets[i];
            keptApart("field " + i + " of a SHEET", x -> talk(x, talkers[0], sheets[0]), x -> talk(x, talkers[0], other),
                ImageTest::asTalked);
        }
        keptApart("the MINUTE of PROOF", x -> turned(x, 3), x -> turned(x, 4), x -> x.talk(0, 0, 2));
    }

    private static void scorched(ColdRing x, int scorch) {
        x.flight(0, 0, 1);
        x.ring(0, 0, scorch);
    }

    /** It tells what the TERM was, and leaves it so. */
    private static int asTermWas(ColdRing x, int term) {
        int was = x.terms(term, 1);
        x.terms(term, was);
        return was;
    }

    private static void talk(ColdRing x, int[] talker, int[] sheet) {
        Check.text(x, "move weight + 3*minute + 7*kind + rank + 9*side; stop");
        x.talker(9, 2, 0, 0, 0);
        x.talker(talker[0], talker[1], talker[2], talker[3], talker[4]);
        x.sheet(sheet[0], sheet[1], sheet[2], sheet[3], sheet[4]);
        x.send(0, sheet[5]);
    }

    private static void turned(ColdRing x, int minute) {
        Check.text(x, "stop");
        x.talker(9, 0, 0, 0, 0);
        x.talker(8, 0, 0, 0, 0);
        x.sheet(0, minute, 5, 0, 1);
        x.send(0, 1);
    }

    private static long asTalked(ColdRing x) {
        return x.talked(0, 0, 1, 0) * 2L + x.talked(0, 0, 1, 2);
    }

    private static void textsGoBack() {
        ColdRing x = new ColdRing();
        x.image(0);
        Check.text(x, "odds 11");
        x.image(1);
        Check.text(x, "odds 22");
        x.back(1);
        Check.due("a TEXT that is no more", x.odds(1, 0, 0, 0), NONE);
        x.back(0);
        Check.due("a TEXT that is no more", x.odds(0, 0, 0, 0), NONE);
        Check.due("another one in its place", Check.text(x, "odds 33"), 0);
        Check.due("by the other one", x.odds(0, 0, 0, 0), 33);
        x.back(1);
        Check.due("the first one again", x.odds(0, 0, 0, 0), 11);
    }

    private static void counts() {
        ColdRing x = evening();
        Check.due("count(14)", x.count(14), NONE);
        Check.due("count(-1)", x.count(-1), NONE);
        Check.due("bytes", x.feed(0, 0, 0, 0, 0) - x.count(8), 0);
        int[] before = {x.count(9), x.count(10), x.count(11), x.count(12), x.count(13)};
        Check.due("none yet", before[0] + before[1] + before[2] + before[3] + before[4], 0);
        x.end(0);
        x.flight(0, 0, 9);
        x.terms(9, 9);
        x.ring(9, 0, 0);
        x.send(9, 0);
        x.sheet(9, 0, 0, 0, 0);
        x.row(0, 1);
        x.end(500);
        x.odds(9, 9, 9, 9);
        x.count(77);
        int[] want = {2, 3, 0, 0, 1};
        for (int i = 0; i < 5; i++) {
            Check.due("count(" + (9 + i) + ")", x.count(9 + i), want[i]);
        }
        x.flight(0, 0, 2);
        x.ring(1, 0, NONE);
        x.ring(1, 1, NONE);
        Check.due("FLIGHTS", x.count(0), 2);
        Check.due("KNOWN", x.count(6), 1);
        Check.due("SCORCHED", x.count(7), 1);
        x.ring(0, 1, 0);
        Check.due("KNOWN", x.count(6), 1);
        Check.due("SCORCHED", x.count(7), 0);
    }

    private static void status() {
        ColdRing x = new ColdRing();
        int refused = x.flight(0, 0, 0);
        Check.due("REFUSED", refused, -1);
        x.feed(0, 0, 0, 0, 0);
        x.end(99);
        x.of(0, 0);
        x.fault();
        x.odds(0, 0, 0, 0);
        x.times(0, 0, 0);
        x.likely(0);
        x.cold(0, 0, 0, 1, 0);
        x.says(0, 0);
        x.tenths(0, 0);
        x.late(0);
        x.beyond(0);
        x.held(0);
        x.line(0);
        x.slip(0);
        x.picture(0, 0, 0);
        x.seen(0, 0, 0);
        x.best(0);
        x.talk(0, 0, 0);
        x.talked(0, 0, 0, 0);
        x.least(0, 0);
        x.more(0, 0, 0);
        x.parts(0, 0, 0);
        x.ask(0, 0);
        x.worlds(0, 0, 1, 0);
        x.count(0);
        Check.due("none of these is told", x.status(), -1);
        x.end(0);
        statusDue(x, "flight", x.flight(0, 0, 1), 0);
        statusDue(x, "ring", x.ring(0, 0, 10), -1);
        statusDue(x, "ring", x.ring(0, 0, 1), 0);
        statusDue(x, "terms", x.terms(4, 0), -1);
        statusDue(x, "terms", x.terms(0, 0), 0);
        statusDue(x, "row", x.row(0, 1), -6);
        Check.put(x, new byte[] {0, 1});
        statusDue(x, "row", x.row(0, 1), 0);
        statusDue(x, "text", x.text(), -6);
        statusDue(x, "text", Check.text(x, "stop"), 0);
        statusDue(x, "point", x.point(0, 601), -1);
        statusDue(x, "point", x.point(0, 600), 0);
        statusDue(x, "talker", x.talker(0, 3, 0, 0, 0), -1);
        statusDue(x, "talker", x.talker(0, 0, 0, 0, 0), 0);
        statusDue(x, "sheet", x.sheet(1, 0, 0, 0, 0), -2);
        statusDue(x, "sheet", x.sheet(0, 0, 0, 0, 0), 0);
        statusDue(x, "send", x.send(1, 1), -2);
        statusDue(x, "send", x.send(0, 1), 0);
        statusDue(x, "image", x.image(5), -1);
        statusDue(x, "image", x.image(0), 0);
        statusDue(x, "back", x.back(1), -2);
        statusDue(x, "back", x.back(0), 0);
    }

    private static void statusDue(ColdRing x, String call, int answer, int want) {
        Check.due("status behind " + call + " = " + answer, x.status(), want);
    }
}
