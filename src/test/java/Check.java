/** What all tests share: answers that are due, and a TAPE written as a String. */
final class Check {
    private static int wrong = 0;
    private static int asked = 0;

    private Check() {
    }

    static void due(String call, long got, long want) {
        asked++;
        if (got != want) {
            wrong++;
            System.out.println(call + " answered " + got + ", due is " + want);
        }
    }

    /** Ends the test: exit code 1 if an answer was not the one that is due. */
    static void finish(String name) {
        System.out.println(name + ": " + asked + " answers, " + wrong + " not as due");
        if (wrong != 0 || asked == 0) {
            System.exit(1);
        }
    }

    /** The numbers of feed() that bring these bytes, five for each call. */
    static int[] numbers(byte[] bytes) {
        int[] numbers = new int[(bytes.length + 19) / 20 * 5];
        for (int i = 0; i < bytes.length; i++) {
            numbers[i / 4] |= (bytes[i] & 255) << 24 - i % 4 * 8;
        }
        return numbers;
    }

    static byte[] bytes(String signs) {
        return signs.getBytes(java.nio.charset.StandardCharsets.ISO_8859_1);
    }

    /** Puts these bytes behind the TAPE. */
    static void put(ColdRing x, byte[] bytes) {
        int before = x.count(8);
        int[] n = numbers(bytes);
        for (int i = 0; i < n.length; i += 5) {
            x.feed(n[i], n[i + 1], n[i + 2], n[i + 3], n[i + 4]);
        }
        x.end(before + bytes.length);
    }

    static void put(ColdRing x, String signs) {
        put(x, bytes(signs));
    }

    static int text(ColdRing x, String signs) {
        put(x, signs);
        return x.text();
    }

    /** A new object's fault() behind text(); the TEXT must be REFUSED, or stand if NONE is due. */
    static void faultDue(String signs, int want) {
        ColdRing x = new ColdRing();
        due("text() of '" + signs + "'", text(x, signs), want == ColdRing.NONE ? 0 : -6);
        due("fault() of '" + signs + "'", x.fault(), want);
    }

    static String repeat(String signs, int times) {
        return signs.repeat(times);
    }
}
