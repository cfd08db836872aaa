import java.lang.reflect.Method;
import java.lang.reflect.Modifier;
import java.util.ArrayList;
import java.util.Arrays;
import java.util.Comparator;
import java.util.List;
import java.util.Random;

/** Asks ColdRing and the Model the same, in runs of 512 calls drawn from fixed seeds. */
public final class ModelTest {
    private static final String[] WORDS = {"warmth", "press", "ring", "worst", "rank", "room", "side", "doubt", "proof",
        "kind", "weight", "minute"};
    private static final String[] SCRAPS = {"odds", "move", "key", "stop", "if", "or", "and", "not", "(", ")", "[", "]",
        "+", "-", "*", "/", "<", ">", "=", ";", " ", "1001", "7", "warmth", "Q", "\u00e9", "\u0000", "doubt"};
    private static final List<Method> METHODS = methods();

    private final Random random;
    private final ColdRing x = new ColdRing();
    private final Model model = new Model();
    private final StringBuilder run = new StringBuilder();
    private int calls = 0;
    private boolean stops = false;

    private ModelTest(long seed) {
        random = new Random(seed);
    }

    private static List<Method> methods() {
        List<Method> list = new ArrayList<>();
        for (Method m : ColdRing.class.getDeclaredMethods()) {
            if (Modifier.isPublic(m.getModifiers())) {
                list.add(m);
            }
        }
        list.sort(Comparator.comparing(Method::getName));
        return list;
    }

    private void call(String name, int... args) {
        if (stops || calls == 512) {
            return;
        }
        calls++;
        try {
            Method mine = METHODS.stream().filter(m -> m.getName().equals(name)).findFirst().orElseThrow();
            Object[] boxed = Arrays.stream(args).boxed().toArray();
            long got = ((Number) mine.invoke(x, boxed)).longValue();
            long want = ((Number) Model.class.getMethod(name, mine.getParameterTypes()).invoke(model, boxed)).longValue();
            String call = name + Arrays.toString(args);
            run.append("  ").append(call).append(" = ").append(want).append('\n');
            if (got != want) {
                stops = true;
                System.out.println(run);
            }
            Check.due(call, got, want);
        } catch (ReflectiveOperationException e) {
            throw new IllegalStateException(name + Arrays.toString(args), e);
        }
    }

    private int upTo(int n) {
        return random.nextInt(n + 1);
    }

    private String oneOf(String... all) {
        return all[random.nextInt(all.length)];
    }

    private String blank() {
        return oneOf("", "", " ", "  ");
    }

    private String part(int depth) {
        int kind = upTo(9);
        if (kind < 2 && depth < 3) {
            return "[" + blank() + sum(depth + 1) + blank() + "]";
        }
        return kind < 6 ? oneOf(WORDS) : Integer.toString(kind == 6 ? upTo(1000) : upTo(60));
    }

    private String sum(int depth) {
        StringBuilder s = new StringBuilder(part(depth));
        for (int n = upTo(2); n > 0; n--) {
            s.append(blank()).append(oneOf("+", "-", "*", "/")).append(blank()).append(part(depth));
        }
        return s.toString();
    }

    private String test(int depth) {
        StringBuilder s = new StringBuilder(plain(depth));
        for (int n = upTo(5) / 2; n > 0; n--) {
            s.append(' ').append(oneOf("or", "and")).append(' ').append(plain(depth));
        }
        return s.toString();
    }

    private String plain(int depth) {
        int kind = upTo(9);
        if (kind < 2) {
            return "not " + plain(depth);
        }
        if (kind < 4 && depth < 3) {
            return "(" + test(depth + 1) + ")";
        }
        return sum(depth) + blank() + oneOf("<", ">", "=") + blank() + sum(depth);
    }

    private String clause() {
        String head = oneOf("odds", "move", "key", "stop", "move", "stop", "odds");
        String s = head.equals("stop") ? head : head + " " + usual(head);
        return upTo(2) > 0 ? s + " if " + (upTo(1) == 0 ? usualTest() : test(0)) : s;
    }

    private String usual(String head) {
        if (upTo(2) == 0) {
            return sum(0);
        }
        switch (head) {
            case "odds": return oneOf("" + upTo(100), "100 - warmth", "[120 - warmth] / 2 + ring", "warmth / 2");
            case "move": return oneOf("weight", "weight / 2", "weight - proof * 10", "" + upTo(30), "0 - weight");
            default: return oneOf("warmth", "0 - warmth", "press * 100 - warmth", "worst * warmth", "warmth / 10");
        }
    }

    private String usualTest() {
        return oneOf("doubt > " + upTo(100), "warmth < " + upTo(80), "not proof = 1 and doubt > " + upTo(100),
            "rank > 4 or side = 1", "kind = " + upTo(7), "minute < " + upTo(400), "doubt / [proof] > 1 or rank > 2",
            "rank > 2 or doubt / proof > 1", "warmth * warmth * warmth * warmth > 1000 * 1000");
    }

    private String law() {
        StringBuilder s = new StringBuilder(clause());
        int most = upTo(9) == 0 ? 13 : 3;
        for (int n = upTo(most); n > 0; n--) {
            s.append(blank()).append(';').append(blank()).append(clause());
        }
        if (upTo(4) == 0) {
            int at = upTo(s.length() - 1);
            if (upTo(1) == 0) {
                s.insert(at, oneOf(SCRAPS));
            } else {
                s.delete(at, Math.min(s.length(), at + 1 + upTo(3)));
            }
        }
        return s.length() > 400 ? s.substring(0, 400) : s.toString();
    }

    /** At the limits of brackets, PARTS and CLAUSES: a little below, at, or a little above them. */
    private String lawAtALimit() {
        int round = upTo(5);
        int square = 3 + upTo(3);
        switch (upTo(3)) {
            case 0:
                return "stop if " + "(".repeat(round) + "[".repeat(square) + "doubt" + "]".repeat(square) + " > "
                    + "[".repeat(9 - round) + "7" + "]".repeat(9 - round) + ")".repeat(round);
            case 1:
                return "odds 1" + "+ring".repeat(47 + upTo(2)) + " if 1" + oneOf("<", "=") + part(3);
            case 2:
                return "move 0-weight" + ";move weight".repeat(10 + upTo(2)) + oneOf("", ";", " if side=0");
            default:
                return "key warmth if " + "not ".repeat(upTo(90)) + "warmth>40";
        }
    }

    private void putTape(byte[] bytes) {
        int[] n = Check.numbers(bytes);
        call("end", 0);
        for (int i = 0; i < n.length; i += 5) {
            call("feed", n[i], n[i + 1], n[i + 2], n[i + 3], n[i + 4]);
        }
        call("end", bytes.length);
    }

    private void readLaw() {
        putTape(Check.bytes(upTo(9) == 0 ? lawAtALimit() : law()));
        call("text");
        call("fault");
    }

    private void readRow() {
        byte[] bytes = new byte[upTo(12)];
        random.nextBytes(bytes);
        for (int i = 0; i < bytes.length; i += 2) {
            if (upTo(3) > 0) {
                bytes[i] = 0;
            }
        }
        putTape(bytes);
        call("row", upTo(9), 1 + upTo(3));
    }

    /** Mostly a number that can be, at times one off or far off. */
    private int number(int least, int most) {
        int kind = upTo(40);
        if (kind == 0) {
            return oneOf("a", "b").equals("a") ? least - 1 : most + 1;
        }
        if (kind == 1) {
            return oneOf("a", "b").equals("a") ? Integer.MIN_VALUE : Integer.MAX_VALUE;
        }
        return least + upTo(most - least);
    }

    private int size(int what) {
        return Math.max(0, model.count(what) - 1);
    }

    private int text() {
        return number(0, size(1));
    }

    private void change() {
        switch (upTo(15)) {
            case 0: case 1: call("flight", number(-40, 120), number(0, 9), number(1, 6)); break;
            case 2: case 3: case 4: call("ring", number(0, size(0)), number(0, 2), upTo(1) == 0 ? number(-1, 9) : number(-1, 2)); break;
            case 5: changeTerm(); break;
            case 6: readRow(); break;
            case 7: case 8: readLaw(); break;
            case 9: call("point", number(-40, 120), number(0, 600)); break;
            case 10: call("talker", number(0, 9), number(0, 2), number(0, 1), number(0, 100), upTo(3) > 0 ? 1 : number(0, 1)); break;
            case 11: call("sheet", number(0, size(3)), number(0, 20) * 20, number(0, 7), number(-50, 50), number(0, 7)); break;
            case 12: case 13: call("send", number(0, size(4)), number(0, 1)); break;
            case 14: call("image", number(0, 1)); break;
            default:
                if (upTo(2) == 0) {
                    call("back", number(0, 1));
                }
                break;
        }
        call("status");
    }

    private void changeTerm() {
        int what = number(0, 3);
        call("terms", what, what == 1 ? number(1, upTo(1) == 0 ? 4 : 12) : number(0, what == 0 ? 600 : 99));
    }

    private void askFlights() {
        switch (upTo(14)) {
            case 0: call("of", number(0, size(0)), number(0, 5)); break;
            case 1: call("odds", text(), number(-40, 120), number(0, 9), number(0, 5)); break;
            case 2: call("times", text(), text(), number(0, 1)); break;
            case 3: call("likely", number(0, 1)); break;
            case 4: call("cold", text(), number(-40, 120), number(0, 9), number(1, 6), number(0, 1)); break;
            case 5: call("says", number(0, 1), number(0, 1)); break;
            case 6: call("tenths", number(-40, 120), number(0, 1)); break;
            case 7: call("late", number(-40, 120)); break;
            case 8: call("beyond", number(-40, 120)); break;
            case 9: call("held", number(0, 2)); break;
            case 10: call("line", number(0, size(0))); break;
            case 11: call("slip", number(-1, 4)); break;
            case 12: call("picture", text(), number(0, 1), number(0, size(0))); break;
            case 13: call("seen", text(), number(0, 1), number(0, 2)); break;
            default: call("best", number(0, 1)); break;
        }
    }

    private void askTalks() {
        boolean usual = upTo(3) > 0;
        int moves = usual ? 0 : text();
        int against = usual ? 1 : text();
        switch (upTo(8)) {
            case 0: call("talk", moves, against, number(0, 2)); break;
            case 1: call("talked", moves, against, number(0, size(3)), number(0, 2)); break;
            case 2: call("parts", moves, against, number(0, size(4))); break;
            case 3: call("ask", moves, against); break;
            case 4: call("worlds", moves, against, number(1, 60), number(0, 1_000_000)); break;
            case 5: call("count", number(0, 13)); break;
            default: askLeast(moves, against); break;
        }
    }

    private void askLeast(int moves, int against) {
        call("least", moves, against);
        for (int i = 0; i < 3; i++) {
            call("more", moves, against, i);
        }
        call("more", moves, against, number(0, 12));
    }

    private void read(String law) {
        putTape(Check.bytes(law));
        call("text");
    }

    /** A hall in which what is sent matters. */
    private void fillHall() {
        read(oneOf("move weight", "move weight / 2; move weight if proof = 0", "move 20 if doubt < 50; move 0 - 9 if side = 1",
            "move weight * [rank + 1] / 5", "move minute / 10 - kind if weight > 0 or rank / proof > 3"));
        read(oneOf("stop if doubt > 50", "stop if doubt + proof * 20 > 60; stop if rank > 8",
            "stop if proof = 0 and doubt > 40", "stop if doubt / rank > 9", "stop if doubt < 20"));
        for (int n = 3 + upTo(10); n > 0; n--) {
            call("talker", upTo(9), upTo(2), upTo(1), upTo(100), upTo(4) > 0 ? 1 : 0);
        }
        for (int n = 3 + upTo(7); n > 0; n--) {
            call("sheet", upTo(size(3)), upTo(6) * 50, upTo(7), upTo(3) > 0 ? upTo(30) : upTo(100) - 50, 1 + upTo(6));
        }
        call("terms", 1, 1 + upTo(7));
    }

    private void fillFleet() {
        for (int n = 3 + upTo(22); n > 0; n--) {
            call("flight", number(-40, 120), upTo(9), 1 + upTo(5));
        }
        for (int n = upTo(60); n > 0; n--) {
            call("ring", upTo(size(0)), upTo(5), upTo(3) - 1);
        }
        for (int n = upTo(4); n > 0; n--) {
            readLaw();
        }
    }

    private void play() {
        int eager = upTo(3);
        int kindOfRun = upTo(2);
        if (kindOfRun == 1) {
            fillHall();
        } else if (kindOfRun == 2) {
            fillFleet();
        }
        for (int i = 0; i < 512 && !stops; i++) {
            int kind = upTo(9);
            if (kind < 3 + eager) {
                change();
            } else if (kind < 7) {
                askFlights();
            } else {
                askTalks();
            }
        }
    }

    public static void main(String[] args) {
        int runs = args.length > 0 ? Integer.parseInt(args[0]) : 150;
        int from = args.length > 1 ? Integer.parseInt(args[1]) : 1;
        for (int seed = from; seed < from + runs; seed++) {
            ModelTest test = new ModelTest(seed);
            test.play();
            if (test.stops) {
                System.out.println("seed " + seed);
                break;
            }
        }
        Check.finish("ModelTest");
    }
}
