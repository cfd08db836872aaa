import java.lang.management.ManagementFactory;

/** What 512 calls make must fit in the room that all calls of a run share: questions make nothing at all. */
public final class RoomTest {
    private static final int CALLS = 512;

    private RoomTest() {
    }

    public static void main(String[] args) {
        ColdRing x = fullEvening();
        x.says(0, 0);
        askAll(x);
        long before = made();
        for (int i = 0; i < CALLS; i++) {
            askAll(x);
        }
        // the probe itself makes a little
        Check.due("bytes above 20,000 made by questions", Math.max(20_000, made() - before), 20_000);

        before = made();
        ColdRing y = new ColdRing();
        y.says(0, 0);
        Check.due("bytes above 200,000 made by one object", Math.max(200_000, made() - before), 200_000);

        y.image(0);
        before = made();
        for (int i = 0; i < CALLS; i++) {
            y.end(0);
            for (int n = 0; n < 12; n++) {
                y.feed(LAW[0], LAW[1], LAW[2], LAW[3], LAW[4]);
            }
            y.end(239);
            Check.due("a TEXT of twelve CLAUSES", y.text(), 0);
            y.back(0);
        }
        Check.due("bytes above 2,000,000 made by TEXTS", Math.max(2_000_000, made() - before), 2_000_000);
        Check.finish("RoomTest");
    }

    /** One CLAUSE of twelve: just what a feed() takes. */
    private static final int[] LAW = Check.numbers(Check.bytes("stop if 1=1 or 2>1 ;"));

    private static long made() {
        return ((com.sun.management.ThreadMXBean) ManagementFactory.getThreadMXBean()).getThreadAllocatedBytes(
            Thread.currentThread().getId());
    }

    private static ColdRing fullEvening() {
        ColdRing x = new ColdRing();
        for (int f = 0; f < 24; f++) {
            x.flight(f * 5, f % 10, 6);
            x.ring(f, f % 6, f % 3);
        }
        for (int t = 0; t < 10; t++) {
            Check.text(x, "odds 5*ring+warmth/3 if warmth>20;key warmth-press;move weight+3;stop if doubt>200");
        }
        for (int t = 0; t < 12; t++) {
            x.talker(t % 10, t % 3, t % 2, 50, 1);
            x.sheet(0, t * 10, t % 8, t, 7);
            x.point(t * 10, t);
        }
        return x;
    }

    private static void askAll(ColdRing x) {
        for (int i = 0; i < 2; i++) {
            x.of(3, i);
            x.odds(0, 0, 0, 0);
            x.times(0, 1, i);
            x.likely(i);
            x.cold(0, 0, 0, 6, i);
            x.says(i, i);
            x.tenths(15, i);
            x.late(15);
            x.beyond(15);
            x.held(i);
            x.line(20);
            x.slip(i);
            x.picture(0, i, 2);
            x.seen(0, i, 2);
            x.best(i);
            x.talk(0, 0, i);
            x.talked(0, 0, 3, i);
            x.least(0, i);
            x.more(0, i, 0);
            x.parts(0, 0, 3);
            x.ask(0, 0);
            x.worlds(0, 0, 60, 5);
            x.count(i);
            x.status();
            x.image(i);
            x.back(i);
            x.send(3, 0);
        }
    }
}
