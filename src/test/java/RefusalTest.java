import java.util.ArrayList;
import java.util.List;
import java.util.function.Consumer;
import java.util.function.ToIntFunction;

/**
 * What REFUSED calls and questions leave as it was, which refusal comes first, and the bounds of promises 36 to 39:
 * an object that took the call is compared, answer by answer, with one that did not.
 */
public final class RefusalTest {
    private static final int NONE = ColdRing.NONE;
    private static final int[] CODES = {-1, -2, -3, -5, -6};

    private RefusalTest() {
    }

    public static void main(String[] args) {
        refusedCallsLeaveAll();
        fullOnesLeaveAll();
        emptiedTapes();
        questionsLeaveAll();
        imagesKeepAllButTapeAndFault();
        twoEvenings();
        imageBounds();
        imagesStay();
        countBounds();
        countsOfRefusals();
        refusalsAreNotKept();
        statusOfTheLatest();
        firstInOrder();
        manyCalls();
        Check.finish("RefusalTest");
    }

    /** Something of every kind, a FAULT, a TAPE that was begun, IMAGE 0 that differs from what stands. */
    private static ColdRing evening() {
        ColdRing x = new ColdRing();
        x.flight(30, 2, 3);
        x.flight(60, 5, 2);
        x.ring(0, 0, 3);
        x.ring(0, 2, NONE);
        x.ring(1, 1, 1);
        Check.text(x, "odds 20+ring*9;key warmth;move weight");
        Check.text(x, "odds 70;key 0-press;stop if doubt>49 and proof=0");
        x.point(20, 4);
        x.point(40, 9);
        x.talker(9, 0, 0, 30, 1);
        x.talker(4, 0, 1, 40, 1);
        x.talker(3, 1, 0, 48, 1);
        x.sheet(2, 10, 1, 9, 3);
        x.sheet(0, 30, 5, 0, 1);
        x.sheet(2, 20, 6, 21, 1);
        x.send(0, 1);
        x.image(0);
        x.flight(-10, 0, 1);
        x.ring(2, 0, NONE);
        int[] terms = {7, 2, 30, 4};
        for (int what = 0; what < 4; what++) {
            x.terms(what, terms[what]);
        }
        x.talker(2, 0, 0, 45, 0);
        x.sheet(2, 20, 0, 20, 7);
        Check.text(x, "odds Q");
        Check.put(x, "odds 31");
        return x;
    }

    /** As evening(), with no room for anything more. */
    private static ColdRing fullEvening() {
        ColdRing x = evening();
        x.end(0);
        for (int i = 0; i < 24; i++) {
            x.flight(i, 1, 1);
            x.point(i, i);
            x.talker(0, 0, 0, 0, 0);
            x.sheet(0, 0, 0, 0, 0);
        }
        for (int i = 0; i < 8; i++) {
            Check.text(x, "stop");
        }
        x.terms(0, 7);
        Check.put(x, "odds 31");
        return x;
    }

    /** Every question's answers, then what only calls that change something tell; so it is asked at the end. */
    private static List<String> all(ColdRing x) {
        List<String> told = new ArrayList<>();
        add(told, "status", x.status());
        add(told, "fault", x.fault());
        for (int what = 0; what <= 13; what++) {
            add(told, "count" + what, x.count(what));
        }
        for (int f = 0; f < x.count(0); f++) {
            add(told, "line", x.line(f));
            for (int what = 0; what < 6; what++) {
                add(told, "of " + f, x.of(f, what));
            }
        }
        for (int text = 0; text < x.count(1); text++) {
            add(told, "odds of " + text, x.odds(text, 33, 3, 3));
            add(told, "key of " + text, x.picture(text, 0, 0));
            add(told, "moves by " + text, x.talked(text, 1, 1, 0));
        }
        for (int warmth = 18; warmth <= 42; warmth += 2) {
            add(told, "tenths", x.tenths(warmth, 0));
            add(told, "late", x.late(warmth));
        }
        for (int which = 0; which < 2; which++) {
            add(told, "says", x.says(which, 0));
            add(told, "times", x.times(0, 1, which));
            add(told, "best", x.best(which));
        }
        for (int t = 0; t < x.count(3); t++) {
            add(told, "talked", x.talked(0, 1, t, 0));
            add(told, "talked", x.talked(0, 1, t, 1));
            add(told, "talked", x.talked(0, 1, t, 2));
            add(told, "stops by the last TEXT", x.talked(0, x.count(1) - 1, t, 2));
        }
        add(told, "talk", x.talk(0, 1, 0));
        add(told, "first PROOF", x.talk(0, 1, 2));
        add(told, "least", x.least(0, 1));
        add(told, "worlds", x.worlds(0, 1, 30, 3));
        for (int f = 0; f < x.count(0); f++) {
            for (int r = 0; r < x.of(f, 2); r++) {
                add(told, "ring", x.ring(f, r, 0));
            }
        }
        for (int what = 0; what < 4; what++) {
            add(told, "terms", x.terms(what, 1));
        }
        for (int s = 0; s < x.count(4); s++) {
            add(told, "send", x.send(s, 0));
        }
        int held = x.count(8);
        add(told, "the TAPE", held == 0 ? NONE : x.row(0, 1));
        return told;
    }

    private static void add(List<String> told, String name, long answer) {
        told.add(name + " = " + answer);
    }

    /** Answers that two objects tell otherwise, but for those that are due to differ. */
    private static void sameDue(String call, ColdRing one, ColdRing other, String... butFor) {
        List<String> a = all(one);
        List<String> b = all(other);
        Check.due(call + ": as many answers", a.size(), b.size());
        for (int i = 0; i < Math.min(a.size(), b.size()); i++) {
            boolean free = false;
            for (String name : butFor) {
                free |= a.get(i).startsWith(name + " ");
            }
            Check.due(call + ": " + a.get(i) + ", without it " + b.get(i), free || a.get(i).equals(b.get(i)) ? 1 : 0, 1);
        }
        one.back(0);
        other.back(0);
        a = all(one);
        b = all(other);
        Check.due(call + ": IMAGE 0", a.subList(16, a.size()).equals(b.subList(16, b.size())) ? 1 : 0, 1);
        Check.due(call + ": IMAGE 1", one.back(1), other.back(1));
    }

    private static int place(int why) {
        for (int i = 0; i < CODES.length; i++) {
            if (CODES[i] == why) {
                return i;
            }
        }
        return NONE;
    }

    /** The call is REFUSED by that number, counted once, told by status(), and nothing else changes. */
    private static void refusedDue(String call, ColdRing x, ColdRing without, ToIntFunction<ColdRing> made, int why) {
        int[] before = new int[5];
        for (int i = 0; i < 5; i++) {
            before[i] = x.count(9 + i);
        }
        Check.refused(call, x, made.applyAsInt(x), why);
        for (int i = 0; i < 5; i++) {
            Check.due(call + ": REFUSED by " + CODES[i], x.count(9 + i), before[i] + (i == place(why) ? 1 : 0));
        }
        sameDue(call, x, without, "status", "count" + (9 + place(why)));
    }

    private static void refusedDue(String call, ToIntFunction<ColdRing> made, int why) {
        refusedDue(call, evening(), evening(), made, why);
    }

    /** -1 and -2: every call that changes something, by each of its numbers. */
    private static void refusedCallsLeaveAll() {
        refusedDue("flight by WARMTH", x -> x.flight(121, 0, 1), -1);
        refusedDue("flight by PRESS", x -> x.flight(0, 10, 1), -1);
        refusedDue("flight by RINGS", x -> x.flight(0, 0, 7), -1);
        refusedDue("ring by SCORCH", x -> x.ring(0, 0, 10), -1);
        refusedDue("ring by SCORCH", x -> x.ring(0, 0, -2), -1);
        refusedDue("ring by FLIGHT", x -> x.ring(3, 0, 5), -2);
        refusedDue("ring by RING", x -> x.ring(1, 2, 5), -2);
        refusedDue("terms by what", x -> x.terms(4, 5), -1);
        refusedDue("terms by value", x -> x.terms(0, 601), -1);
        refusedDue("terms by value", x -> x.terms(1, 0), -1);
        refusedDue("terms by value", x -> x.terms(2, 101), -1);
        refusedDue("terms by value", x -> x.terms(3, 100), -1);
        refusedDue("row by PRESS", x -> x.row(10, 1), -1);
        refusedDue("row by RINGS", x -> x.row(0, 0), -1);
        refusedDue("point by WARMTH", x -> x.point(-41, 0), -1);
        refusedDue("point by TENTHS", x -> x.point(20, 601), -1);
        refusedDue("talker by RANK", x -> x.talker(10, 0, 0, 0, 0), -1);
        refusedDue("talker by ROOM", x -> x.talker(0, 3, 0, 0, 0), -1);
        refusedDue("talker by SIDE", x -> x.talker(0, 0, 2, 0, 0), -1);
        refusedDue("talker by DOUBT", x -> x.talker(0, 0, 0, 101, 0), -1);
        refusedDue("talker by VOTE", x -> x.talker(0, 0, 0, 0, 2), -1);
        refusedDue("sheet by MINUTE", x -> x.sheet(0, 401, 0, 0, 0), -1);
        refusedDue("sheet by KIND", x -> x.sheet(0, 0, 8, 0, 0), -1);
        refusedDue("sheet by WEIGHT", x -> x.sheet(0, 0, 0, 51, 0), -1);
        refusedDue("sheet by ROOMS", x -> x.sheet(0, 0, 0, 0, 8), -1);
        refusedDue("sheet by TALKER", x -> x.sheet(4, 0, 0, 0, 0), -2);
        refusedDue("send by sent", x -> x.send(0, 2), -1);
        refusedDue("send by SHEET", x -> x.send(4, 1), -2);
        refusedDue("image by k", x -> x.image(2), -1);
        refusedDue("back by k", x -> x.back(2), -1);
        refusedDue("back, not kept", x -> x.back(1), -2);
    }

    /** -5: no room. */
    private static void fullOnesLeaveAll() {
        refusedDue("the 25th FLIGHT", fullEvening(), fullEvening(), x -> x.flight(0, 0, 1), -5);
        refusedDue("the 13th POINT", fullEvening(), fullEvening(), x -> x.point(90, 0), -5);
        refusedDue("the 13th TALKER", fullEvening(), fullEvening(), x -> x.talker(9, 0, 0, 0, 1), -5);
        refusedDue("the 13th SHEET", fullEvening(), fullEvening(), x -> x.sheet(0, 0, 0, 0, 7), -5);
    }

    private static ColdRing emptied(ColdRing x) {
        x.end(0);
        return x;
    }

    /** row and text that are REFUSED by -5 or -6 leave all but the TAPE, a TEXT that was read FAULT, too. */
    private static void emptiedTapes() {
        refusedDue("row without room", fullEvening(), emptied(fullEvening()), x -> x.row(0, 1), -5);
        refusedDue("text without room", fullEvening(), emptied(fullEvening()), ColdRing::text, -5);
        refusedDue("row of an empty TAPE", emptied(evening()), emptied(evening()), x -> x.row(0, 1), -6);
        ColdRing other = evening();
        other.end(0);
        ColdRing x = evening();
        Check.put(x, "Q");
        Check.refused("no TEXT", x, x.text(), -6);
        Check.due("its FAULT", x.fault(), 7);
        sameDue("no TEXT", x, other, "status", "count13", "fault");
    }

    private static void askedDue(String call, Consumer<ColdRing> question) {
        ColdRing x = evening();
        question.accept(x);
        sameDue(call, x, evening());
    }

    /** Questions, with right numbers and with wrong ones, change nothing: not status(), not what was REFUSED. */
    private static void questionsLeaveAll() {
        for (int n : new int[] {0, 1, -1, 99}) {
            askedDue("of", x -> x.of(n, 0));
            askedDue("end of too many", x -> x.end(8 + Math.abs(n)));
            askedDue("fault", x -> x.fault());
            askedDue("odds", x -> x.odds(n, 0, 0, 0));
            askedDue("times", x -> x.times(n, 0, 0));
            askedDue("likely", x -> x.likely(n));
            askedDue("cold", x -> x.cold(n, 0, 0, 6, 0));
            askedDue("says", x -> x.says(n, 0));
            askedDue("tenths", x -> x.tenths(n, 0));
            askedDue("late", x -> x.late(n));
            askedDue("beyond", x -> x.beyond(n));
            askedDue("held", x -> x.held(n));
            askedDue("line", x -> x.line(n));
            askedDue("slip", x -> x.slip(n));
            askedDue("picture", x -> x.picture(n, 0, 0));
            askedDue("seen", x -> x.seen(n, 0, 2));
            askedDue("best", x -> x.best(n));
            askedDue("talk", x -> x.talk(n, 1, 0));
            askedDue("talked", x -> x.talked(0, 1, n, 0));
            askedDue("least", x -> x.least(0, n));
            askedDue("more", x -> x.more(0, 1, n));
            askedDue("parts", x -> x.parts(0, 1, n));
            askedDue("ask", x -> x.ask(0, n));
            askedDue("worlds", x -> x.worlds(0, 1, n, 7));
            askedDue("count", x -> x.count(n));
            askedDue("status", x -> x.status());
        }
        ColdRing x = new ColdRing();
        ColdRing y = new ColdRing();
        for (int i = 0; i < 20; i++) {
            x.feed(0, 0, 0, 0, 0);
            y.feed(0, 0, 0, 0, 0);
        }
        Check.due("a feed too many", x.feed(1, 1, 1, 1, 1), NONE);
        Check.due("is not REFUSED", x.count(9) + x.status(), y.count(9) + y.status());
    }

    /** "IMAGES 0, 1 keep all but the TAPE and FAULT; BACK to one all that it keeps is as it was then". */
    private static void imagesKeepAllButTapeAndFault() {
        for (int k = 0; k < 2; k++) {
            ColdRing x = evening();
            Check.granted("image", x, x.image(k), 0);
            x.flight(1, 1, 6);
            x.ring(0, 1, 9);
            x.ring(2, 0, 0);
            x.terms(0, 600);
            x.terms(1, 12);
            x.terms(2, 100);
            x.terms(3, 99);
            x.point(20, 600);
            x.point(30, 0);
            x.talker(9, 0, 0, 99, 1);
            x.sheet(1, 1, 0, 50, 7);
            x.send(4, 1);
            x.send(0, 0);
            x.end(0);
            Check.text(x, "odds 1");
            Check.put(x, "odds 31");
            Check.granted("back", x, x.back(k), 0);
            ColdRing without = evening();
            without.image(k);
            List<String> a = all(x);
            List<String> b = all(without);
            Check.due("as many answers", a.size(), b.size());
            for (int i = 0; i < Math.min(a.size(), b.size()); i++) {
                Check.due("back to " + k + ": " + a.get(i) + ", then " + b.get(i),
                    a.get(i).equals(b.get(i)) || a.get(i).startsWith("fault ") ? 1 : 0, 1);
            }
        }
        ColdRing x = evening();
        x.image(0);
        x.end(3);
        x.back(0);
        Check.due("the TAPE is not kept", x.count(8), 3);
        Check.due("FAULT", x.fault(), 5);
        Check.text(x, "  Q");
        x.back(0);
        Check.due("FAULT is not kept", x.fault(), 0);
    }

    /** Two evenings that have as much of all, and nothing alike: each field of an IMAGE is its own. */
    private static void fill(ColdRing x, int other) {
        for (int f = 0; f < 3; f++) {
            x.flight(20 + 9 * f + 30 * other, 2 + f + 3 * other, 4 - f + 2 * other);
            x.ring(f, f % 2, 1 + f + 2 * other);
        }
        Check.text(x, other == 0 ? "odds 20+ring*9;key warmth;move weight+rank-side*3+room*2+kind"
            : "odds 70-press;key 0-press;move weight-rank+side*5+minute/7");
        Check.text(x, other == 0 ? "odds 5;stop if doubt>49" : "odds 6;key worst;stop if doubt<30 and proof=0");
        Check.text(x, "stop");
        for (int i = 0; i < 3; i++) {
            x.point(20 + 6 * i + 3 * other, 5 + i + 20 * other);
            x.terms(i, 3 + i + 4 * other);
            x.talker(8 - 2 * i + other * (4 * i - 7), (i + other) % 3, other, 30 + i - 9 * other, (i + other + 1) % 2);
        }
        x.terms(3, 9 * other);
        for (int i = 0; i < 4; i++) {
            x.sheet((i + other) % 3, other == 0 ? 50 - 9 * i : 10 + 20 * i, (i + 3 + 2 * other) % 8, 7 * i - 30 * other,
                7 - 3 * other);
            x.send(i, (i + 1 + other) % 2);
        }
    }

    private static void twoEvenings() {
        ColdRing x = new ColdRing();
        x.image(1);
        fill(x, 0);
        x.image(0);
        x.back(1);
        fill(x, 1);
        x.image(1);
        for (int turn : new int[] {0, 1, 1, 0, 1}) {
            x.back(turn);
            ColdRing alone = new ColdRing();
            fill(alone, turn);
            List<String> a = all(x);
            List<String> b = all(alone);
            Check.due("as many answers", a.size(), b.size());
            for (int i = 0; i < Math.min(a.size(), b.size()); i++) {
                Check.due("evening " + turn + ": " + a.get(i) + ", alone " + b.get(i), a.get(i).equals(b.get(i)) ? 1 : 0, 1);
            }
        }
        ColdRing first = new ColdRing();
        ColdRing second = new ColdRing();
        fill(first, 0);
        fill(second, 1);
        Check.due("the evenings are not alike", all(first).equals(all(second)) ? 1 : 0, 0);
    }

    /** "IMAGE k is kept: 0; -1", "-2 it was not kept". */
    private static void imageBounds() {
        Check.edges("image", 0, 1, -1, k -> new ColdRing().image(k));
        Check.edges("back", 0, 1, -1, k -> new ColdRing().back(k));
        for (int k = 0; k < 2; k++) {
            ColdRing x = new ColdRing();
            Check.refused("not kept", x, x.back(k), -2);
            Check.granted("kept", x, x.image(k), 0);
            Check.granted("back", x, x.back(k), 0);
            Check.refused("the other is not kept", x, x.back(1 - k), -2);
        }
    }

    /** "(IMAGES stay)". */
    private static void imagesStay() {
        ColdRing x = new ColdRing();
        x.image(0);
        x.flight(1, 0, 1);
        x.image(1);
        x.flight(2, 0, 1);
        for (int i = 0; i < 3; i++) {
            x.back(0);
            Check.due("IMAGE 0 has none", x.count(0), 0);
            x.flight(9, 0, 1);
            x.back(1);
            Check.due("IMAGE 1 has one", x.count(0), 1);
            Check.due("its WARMTH", x.of(0, 0), 1);
            x.ring(0, 0, 9);
        }
        x.image(0);
        x.back(1);
        Check.due("IMAGE 1 still", x.of(0, 3), 0);
        x.back(0);
        Check.due("IMAGE 0 kept anew", x.of(0, 3), 9);
    }

    /** "NONE for others". */
    private static void countBounds() {
        Check.edges("count", 0, 13, NONE, what -> evening().count(what));
        int[] due = {3, 2, 2, 4, 4, 1, 2, 2, 7, 0, 0, 0, 0, 1};
        for (int what = 0; what <= 13; what++) {
            Check.due("count(" + what + ")", evening().count(what), due[what]);
            Check.due("count(" + what + ") of a new one", new ColdRing().count(what), 0);
        }
    }

    /** "9 .. 13 how many calls were REFUSED by -1, -2, -3, -5, -6". */
    private static void countsOfRefusals() {
        ColdRing x = fullEvening();
        int[] before = new int[5];
        for (int i = 0; i < 5; i++) {
            before[i] = x.count(9 + i);
        }
        for (int i = 0; i < 1; i++) {
            x.terms(9, 9);
        }
        for (int i = 0; i < 2; i++) {
            x.send(99, 1);
        }
        for (int i = 0; i < 3; i++) {
            x.flight(0, 0, 1);
        }
        x.end(0);
        for (int i = 0; i < 4; i++) {
            x.row(0, 1);
        }
        int[] more = {1, 2, 0, 3, 4};
        for (int i = 0; i < 5; i++) {
            Check.due("REFUSED by " + CODES[i], x.count(9 + i), before[i] + more[i]);
        }
    }

    /** "(IMAGES do not keep that)". */
    private static void refusalsAreNotKept() {
        ColdRing x = new ColdRing();
        x.image(0);
        x.flight(0, 0, 9);
        x.ring(0, 0, 0);
        x.row(0, 1);
        x.back(0);
        Check.due("REFUSED by -1 stays", x.count(9), 1);
        Check.due("REFUSED by -2 stays", x.count(10), 1);
        Check.due("REFUSED by -6 stays", x.count(13), 1);
        x.image(0);
        x.back(0);
        Check.due("REFUSED by -1 is not counted again", x.count(9), 1);
    }

    /** "What the latest call .. was REFUSED by; 0 if it was not, or ahead of any". */
    private static void statusOfTheLatest() {
        ColdRing x = new ColdRing();
        Check.due("ahead of any", x.status(), 0);
        x.feed(0, 0, 0, 0, 0);
        x.end(-1);
        Check.due("ahead of any of those", x.status(), 0);
        x.flight(0, 0, 0);
        Check.due("REFUSED", x.status(), -1);
        x.send(0, 0);
        Check.due("the later one", x.status(), -2);
        x.flight(0, 0, 1);
        Check.due("not REFUSED", x.status(), 0);
        x.ring(0, 0, NONE);
        Check.due("it was 0", x.ring(0, 0, 5), NONE);
        Check.due("NONE that it was is no refusal", x.status(), 0);
        Check.due("nor counted", x.count(9), 1);
    }

    /** "The first of these in that order". */
    private static void firstInOrder() {
        ColdRing x = fullEvening();
        Check.refused("flight: -1 ahead of -5", x, x.flight(-41, 0, 1), -1);
        Check.refused("ring: -1 ahead of -2", x, x.ring(99, 99, 10), -1);
        Check.refused("point: -1 ahead of -5", x, x.point(121, 0), -1);
        Check.refused("talker: -1 ahead of -5", x, x.talker(0, 0, 0, 0, -1), -1);
        Check.refused("sheet: -1 ahead of -2 ahead of -5", x, x.sheet(12, 0, 0, 0, -1), -1);
        Check.refused("sheet: -2 ahead of -5", x, x.sheet(12, 0, 0, 0, 0), -2);
        Check.refused("send: -1 ahead of -2", x, x.send(12, -1), -1);
        Check.refused("row: -1 ahead of -5", x, x.row(0, 7), -1);
        x.end(1);
        Check.refused("text: -5 ahead of -6", x, x.text(), -5);
        Check.refused("text of nothing: -5 ahead of -6", x, x.text(), -5);
        Check.refused("row of nothing: -1 ahead of -6", x, x.row(0, 7), -1);
    }

    /** "at most 512 calls": the 512th still answers. */
    private static void manyCalls() {
        ColdRing x = new ColdRing();
        x.flight(0, 0, 1);
        for (int call = 2; call <= 511; call++) {
            x.ring(0, 0, call % 10);
        }
        Check.due("the 512th", x.ring(0, 0, 7), 511 % 10);
        ColdRing y = new ColdRing();
        for (int call = 1; call <= 511; call++) {
            y.back(0);
        }
        Check.due("REFUSED as often as can be", y.count(10), 511);
    }
}
