import java.util.function.IntUnaryOperator;

/** What all tests share: answers that are due, and a TAPE written as a String. */
final class Check {
    private static int wrong = 0;
    private static int asked = 0;

    private Check() {
    }

    static void due(String call, long got, long want) {
        asked++;
        if (got != want) {
            wrong++;
            System.out.println(call + " answered " + got + ", due is " + want);
        }
    }

    /**
     * At both bounds and one step within them a number is taken; one step beyond them and as far off as numbers
     * go it is not. The call makes an object of its own each time.
     */
    static void edges(String call, int least, int most, int without, IntUnaryOperator answer) {
        for (int n : new int[] {least, Math.min(least + 1, most), Math.max(most - 1, least), most}) {
            due(call + " takes " + n, answer.applyAsInt(n) == without ? 0 : 1, 1);
        }
        for (int n : new int[] {least - 1, most + 1, Integer.MIN_VALUE, Integer.MAX_VALUE}) {
            due(call + " with " + n, answer.applyAsInt(n), without);
        }
    }

    /** The call was REFUSED by that number, and status() tells it. */
    static void refused(String call, ColdRing x, int answer, int why) {
        due(call, answer, why);
        due("status behind " + call, x.status(), why);
    }

    /** The call was not REFUSED. */
    static void granted(String call, ColdRing x, int answer, int want) {
        due(call, answer, want);
        due("status behind " + call, x.status(), 0);
    }

    /** Ends the test: exit code 1 if an answer was not the one that is due. */
    static void finish(String name) {
        System.out.println(name + ": " + asked + " answers, " + wrong + " not as due");
        if (wrong != 0 || asked == 0) {
            System.exit(1);
        }
    }

    /** The numbers of feed() that bring these bytes, five for each call. */
    static int[] numbers(byte[] bytes) {
        int[] numbers = new int[(bytes.length + 19) / 20 * 5];
        for (int i = 0; i < bytes.length; i++) {
            numbers[i / 4] |= (bytes[i] & 255) << 24 - i % 4 * 8;
        }
        return numbers;
    }

    static byte[] bytes(String signs) {
        return signs.getBytes(java.nio.charset.StandardCharsets.ISO_8859_1);
    }

    /** Puts these bytes behind the TAPE. */
    static void put(ColdRing x, byte[] bytes) {
        int before = x.count(8);
        int[] n = numbers(bytes);
        for (int i = 0; i < n.length; i += 5) {
            x.feed(n[i], n[i + 1], n[i + 2], n[i + 3], n[i + 4]);
        }
        x.end(before + bytes.length);
    }

    static void put(ColdRing x, String signs) {
        put(x, bytes(signs));
    }

    static int text(ColdRing x, String signs) {
        put(x, signs);
        return x.text();
    }

    /** A new object's fault() behind text(); the TEXT must be REFUSED, or stand if NONE is due. */
    static void faultDue(String signs, int want) {
        ColdRing x = new ColdRing();
        due("text() of '" + signs + "'", text(x, signs), want == ColdRing.NONE ? 0 : -6);
        due("fault() of '" + signs + "'", x.fault(), want);
    }

    static String repeat(String signs, int times) {
        return signs.repeat(times);
    }
}
