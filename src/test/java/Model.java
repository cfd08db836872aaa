import java.math.BigInteger;
import java.util.ArrayList;
import java.util.Arrays;
import java.util.List;
import java.util.Map;
import java.util.TreeMap;

/**
 * The document once more, as slow and plain as can be: lists, trees, BigInteger, all subsets. It shares no
 * code with ColdRing; ModelTest asks both the same and compares.
 */
public final class Model {
    private static final class Broken extends RuntimeException {
        private static final long serialVersionUID = 1L;
    }

    private static final class Fault extends RuntimeException {
        private static final long serialVersionUID = 1L;
        final int place;

        Fault(int place) {
            this.place = place;
        }
    }

    private static final class Flight {
        int warmth;
        int press;
        List<Integer> rings = new ArrayList<>();

        boolean lost() {
            return rings.stream().allMatch(s -> s == -1);
        }

        int worst() {
            return rings.stream().filter(s -> s != -1).mapToInt(s -> s).max().orElse(0);
        }

        boolean scorched() {
            return worst() > 0;
        }

        boolean in(int which) {
            return which == 0 ? !lost() : scorched();
        }

        boolean bad(int which) {
            return which == 0 ? scorched() : worst() > 1;
        }

        Flight copy() {
            Flight f = new Flight();
            f.warmth = warmth;
            f.press = press;
            f.rings = new ArrayList<>(rings);
            return f;
        }
    }

    private interface Node {
        long value(Map<String, Integer> words);
    }

    private interface Test {
        boolean so(Map<String, Integer> words);
    }

    private record Clause(String head, Node sum, Test test) {
    }

    private record Token(String signs, int place) {
    }

    private static final class State {
        List<Flight> flights = new ArrayList<>();
        List<List<Clause>> texts = new ArrayList<>();
        TreeMap<Integer, Integer> points = new TreeMap<>();
        List<int[]> talkers = new ArrayList<>();
        List<int[]> sheets = new ArrayList<>();
        int[] terms = {6, 1, 0, 0};

        State copy() {
            State s = new State();
            flights.forEach(f -> s.flights.add(f.copy()));
            s.texts.addAll(texts);
            s.points.putAll(points);
            talkers.forEach(t -> s.talkers.add(t.clone()));
            sheets.forEach(t -> s.sheets.add(t.clone()));
            s.terms = terms.clone();
            return s;
        }
    }

    private State now = new State();
    private final State[] images = new State[2];
    private byte[] tape = {};
    private int fault = -1;
    private int status = 0;
    private final Map<Integer, Integer> refused = new TreeMap<>();

    private int refuse(int why) {
        refused.merge(why, 1, Integer::sum);
        status = why;
        return why;
    }

    private int fine(int answer) {
        status = 0;
        return answer;
    }

    private static boolean in(int x, int a, int b) {
        return a <= x && x <= b;
    }

    private static boolean hull(int warmth, int press, int rings) {
        return in(warmth, -40, 120) && in(press, 0, 9) && in(rings, 1, 6);
    }

    private void fly(int warmth, int press, int rings, int scorch) {
        Flight f = new Flight();
        f.warmth = warmth;
        f.press = press;
        for (int i = 0; i < rings; i++) {
            f.rings.add(scorch);
        }
        now.flights.add(f);
    }

    public int flight(int warmth, int press, int rings) {
        if (!hull(warmth, press, rings)) return refuse(-1);
        if (now.flights.size() == 24) return refuse(-5);
        fly(warmth, press, rings, 0);
        return fine(now.flights.size() - 1);
    }

    public int ring(int flight, int ring, int scorch) {
        if (!in(scorch, -1, 9)) return refuse(-1);
        if (!in(flight, 0, now.flights.size() - 1)) return refuse(-2);
        if (!in(ring, 0, now.flights.get(flight).rings.size() - 1)) return refuse(-2);
        return fine(now.flights.get(flight).rings.set(ring, scorch));
    }

    public int of(int flight, int what) {
        if (!in(flight, 0, now.flights.size() - 1) || !in(what, 0, 5)) return -1000;
        Flight f = now.flights.get(flight);
        return new int[] {f.warmth, f.press, f.rings.size(), f.worst(), f.scorched() ? 1 : 0, f.lost() ? 1 : 0}[what];
    }

    public int terms(int what, int value) {
        int[][] bounds = {{0, 600}, {1, 12}, {0, 100}, {0, 99}};
        if (!in(what, 0, 3) || !in(value, bounds[what][0], bounds[what][1])) return refuse(-1);
        int was = now.terms[what];
        now.terms[what] = value;
        return fine(was);
    }

    public int feed(int a, int b, int c, int d, int e) {
        if (tape.length > 380) return -1;
        java.nio.ByteBuffer buffer = java.nio.ByteBuffer.allocate(tape.length + 20);
        buffer.put(tape).putInt(a).putInt(b).putInt(c).putInt(d).putInt(e);
        tape = buffer.array();
        return tape.length;
    }

    public int end(int n) {
        if (!in(n, 0, tape.length)) return -1;
        tape = Arrays.copyOf(tape, n);
        return n;
    }

    public int row(int press, int rings) {
        if (!hull(0, press, rings)) return refuse(-1);
        byte[] t = tape;
        tape = new byte[0];
        List<Integer> warmths = new ArrayList<>();
        for (int i = 0; i < t.length; i += 2) {
            warmths.add(i + 1 == t.length ? 9999 : (int) java.nio.ByteBuffer.wrap(t, i, 2).getShort());
        }
        if (now.flights.size() + warmths.size() > 24) return refuse(-5);
        if (warmths.isEmpty()) return refuse(-6);
        int lost = 0;
        for (int w : warmths) {
            boolean can = in(w, -40, 120);
            fly(can ? w : 0, press, rings, can ? 0 : -1);
            lost += can ? 0 : 1;
        }
        return fine(lost);
    }

    public int text() {
        byte[] t = tape;
        tape = new byte[0];
        if (now.texts.size() == 10) return refuse(-5);
        try {
            now.texts.add(new Grammar(t).whole());
            fault = -1;
            return fine(now.texts.size() - 1);
        } catch (Fault f) {
            fault = f.place;
            return refuse(-6);
        }
    }

    public int fault() {
        return fault;
    }

    private static final class Grammar {
        private static final List<String> WORDS = List.of("warmth", "press", "ring", "worst", "rank", "room", "side",
                "doubt", "proof", "kind", "weight", "minute");
        private final List<Token> tokens = new ArrayList<>();
        private int at = 0;
        private int parts = 0;
        private int open = 0;

        Grammar(byte[] t) {
            String all = new String(t, java.nio.charset.StandardCharsets.ISO_8859_1);
            java.util.regex.Matcher m = java.util.regex.Pattern
                    .compile("[a-z]+|[0-9]+|[^ ]", java.util.regex.Pattern.DOTALL).matcher(all);
            while (m.find()) {
                tokens.add(new Token(m.group(), m.start()));
            }
            tokens.add(new Token("", t.length));
        }

        private String peek() {
            return tokens.get(at).signs();
        }

        private boolean eat(String signs) {
            if (!peek().equals(signs)) return false;
            at++;
            return true;
        }

        private Fault fault() {
            return new Fault(tokens.get(at).place());
        }

        private void must(String signs) {
            if (!eat(signs)) throw fault();
        }

        List<Clause> whole() {
            List<Clause> all = new ArrayList<>();
            do {
                if (all.size() == 12) throw fault();
                all.add(clause());
            } while (eat(";"));
            if (!peek().isEmpty()) throw fault();
            return all;
        }

        private Clause clause() {
            String head = peek();
            if (!List.of("odds", "move", "key", "stop").contains(head)) throw fault();
            at++;
            Node sum = head.equals("stop") ? w -> 0 : sum();
            return new Clause(head, sum, eat("if") ? test() : w -> true);
        }

        private Test test() {
            Test left = both();
            while (eat("or")) {
                Test one = left;
                Test two = both();
                left = w -> one.so(w) || two.so(w);
            }
            return left;
        }

        private Test both() {
            Test left = plain();
            while (eat("and")) {
                Test one = left;
                Test two = plain();
                left = w -> one.so(w) && two.so(w);
            }
            return left;
        }

        private void bracket() {
            if (open == 8) throw fault();
            open++;
            at++;
        }

        private Test plain() {
            if (eat("not")) {
                Test inner = plain();
                return w -> !inner.so(w);
            }
            if (peek().equals("(")) {
                bracket();
                Test inner = test();
                must(")");
                open--;
                return inner;
            }
            Node left = sum();
            String sign = peek();
            if (!List.of("<", ">", "=").contains(sign)) throw fault();
            at++;
            Node right = sum();
            return w -> {
                int order = Long.compare(left.value(w), right.value(w));
                return sign.equals("<") ? order < 0 : sign.equals(">") ? order > 0 : order == 0;
            };
        }

        private static long sound(long value) {
            if (Math.abs(value) > 1_000_000_000L) throw new Broken();
            return value;
        }

        private Node sum() {
            Node left = term();
            while (List.of("+", "-").contains(peek())) {
                int sign = eat("+") ? 1 : -1;
                if (sign < 0) must("-");
                Node one = left;
                Node two = term();
                left = w -> sound(one.value(w) + sign * two.value(w));
            }
            return left;
        }

        private Node term() {
            Node left = part();
            while (List.of("*", "/").contains(peek())) {
                boolean product = eat("*");
                if (!product) must("/");
                Node one = left;
                Node two = part();
                left = w -> {
                    long a = one.value(w);
                    long b = two.value(w);
                    if (!product && b == 0) throw new Broken();
                    return sound(product ? a * b : a / b);
                };
            }
            return left;
        }

        private Node part() {
            String signs = peek();
            if (signs.equals("[")) {
                bracket();
                Node inner = sum();
                must("]");
                open--;
                return inner;
            }
            boolean number = signs.matches("[0-9]+");
            if (!number && !WORDS.contains(signs)) throw fault();
            if (number && new BigInteger(signs).compareTo(BigInteger.valueOf(1000)) > 0) throw fault();
            if (parts == 50) throw fault();
            parts++;
            at++;
            if (!number) return w -> w.getOrDefault(signs, 0);
            long value = Long.parseLong(signs.replaceFirst("^0+(?=.)", ""));
            return w -> value;
        }
    }

    /** Null without. */
    private static Long told(List<Clause> text, String head, Map<String, Integer> words) {
        Long last = null;
        for (Clause c : text) {
            if (c.head().equals(head)) {
                try {
                    if (c.test().so(words)) last = c.sum().value(words);
                } catch (Broken b) {
                    continue;
                }
            }
        }
        return last;
    }

    private List<Clause> law(int text) {
        return in(text, 0, now.texts.size() - 1) ? now.texts.get(text) : null;
    }

    private static int oddsOf(List<Clause> law, int warmth, int press, int ring) {
        Long told = told(law, "odds", Map.of("warmth", warmth, "press", press, "ring", ring));
        return told == null ? 50 : (int) Math.max(1, Math.min(99, told));
    }

    public int odds(int text, int warmth, int press, int ring) {
        if (law(text) == null || !hull(warmth, press, 1) || !in(ring, 0, 5)) return -1;
        return oddsOf(law(text), warmth, press, ring);
    }

    private BigInteger chance(List<Clause> law, int which) {
        BigInteger all = BigInteger.ONE;
        for (Flight f : now.flights) {
            for (int r = 0; f.in(which) && r < f.rings.size(); r++) {
                int odds = oddsOf(law, f.warmth, f.press, r);
                if (f.rings.get(r) != -1) all = all.multiply(BigInteger.valueOf(f.rings.get(r) > 0 ? odds : 100 - odds));
            }
        }
        return all;
    }

    public int times(int text, int other, int which) {
        if (law(text) == null || law(other) == null || !in(which, 0, 1)) return -1;
        return chance(law(text), which).divide(chance(law(other), which)).min(BigInteger.valueOf(1_000_000)).intValue();
    }

    public int likely(int which) {
        if (!in(which, 0, 1)) return -1;
        int best = -1;
        for (int i = 0; i < now.texts.size(); i++) {
            if (best == -1 || chance(law(i), which).compareTo(chance(law(best), which)) > 0) best = i;
        }
        return best;
    }

    public long cold(int text, int warmth, int press, int rings, int part) {
        if (law(text) == null || !hull(warmth, press, rings) || !in(part, 0, 1)) return -1;
        BigInteger all = BigInteger.valueOf(100).pow(rings);
        BigInteger none = BigInteger.ONE;
        for (int r = 0; r < rings; r++) {
            none = none.multiply(BigInteger.valueOf(100 - oddsOf(law(text), warmth, press, r)));
        }
        BigInteger upper = all.subtract(none);
        return (part == 0 ? upper : all).divide(upper.gcd(all)).longValueExact();
    }

    private List<Flight> chosen(int which) {
        List<Flight> list = new ArrayList<>(now.flights);
        list.removeIf(f -> !f.in(which));
        return list;
    }

    public int says(int which, int part) {
        if (!in(which, 0, 1) || !in(part, 0, 1)) return -1;
        List<Flight> pool = chosen(which);
        int[] w = pool.stream().mapToInt(f -> f.warmth).toArray();
        int bad = (int) pool.stream().filter(f -> f.bad(which)).count();
        int sum = pool.stream().filter(f -> f.bad(which)).mapToInt(f -> f.warmth).sum();
        return choices(w, 0, bad, part == 0 ? sum : 1_000_000);
    }

    private static int choices(int[] w, int from, int more, int left) {
        if (more == 0) return left >= 0 ? 1 : 0;
        if (w.length - from < more) return 0;
        return choices(w, from + 1, more, left) + choices(w, from + 1, more - 1, left - w[from]);
    }

    public int point(int warmth, int tenths) {
        if (!in(warmth, -40, 120) || !in(tenths, 0, 600)) return refuse(-1);
        if (now.points.size() == 12 && !now.points.containsKey(warmth)) return refuse(-5);
        now.points.put(warmth, tenths);
        return fine(now.points.size());
    }

    public int tenths(int warmth, int what) {
        Map.Entry<Integer, Integer> a = now.points.floorEntry(warmth);
        Map.Entry<Integer, Integer> b = now.points.ceilingEntry(warmth);
        if (!in(what, 0, 1) || a == null || b == null) return -1;
        return what == 0 ? Math.min(a.getValue(), b.getValue()) : Math.max(a.getValue(), b.getValue());
    }

    public int late(int warmth) {
        if (!in(warmth, -40, 120)) return -1;
        if (tenths(warmth, 0) == -1) return 3;
        boolean may = tenths(warmth, 0) <= now.terms[0];
        boolean must = tenths(warmth, 1) <= now.terms[0];
        return must ? 0 : may ? 1 : 2;
    }

    private static int far(List<Integer> warmths, int warmth) {
        int a = warmths.stream().mapToInt(w -> w).min().orElseThrow();
        int b = warmths.stream().mapToInt(w -> w).max().orElseThrow();
        return warmth < a ? a - warmth : warmth > b ? warmth - b : 0;
    }

    public int beyond(int warmth) {
        List<Integer> flown = chosen(0).stream().map(f -> f.warmth).toList();
        return in(warmth, -40, 120) && !flown.isEmpty() ? far(flown, warmth) : -1;
    }

    public int held(int what) {
        if (!in(what, 0, 2)) return -1;
        List<Integer> free = new ArrayList<>();
        int[] counts = new int[3];
        for (Flight f : chosen(0)) {
            if (!free.isEmpty() && far(free, f.warmth) > now.terms[3]) {
                counts[0]++;
                counts[f.scorched() ? 1 : 2]++;
            } else {
                free.add(f.warmth);
            }
        }
        return counts[what];
    }

    public int line(int flight) {
        if (!in(flight, 0, now.flights.size() - 1)) return -1;
        return now.flights.subList(0, flight + 1).stream().filter(f -> !f.lost()).mapToInt(Flight::worst).max().orElse(0);
    }

    public int slip(int i) {
        List<Integer> slips = new ArrayList<>();
        for (int f = 0; f < now.flights.size(); f++) {
            if (line(f) > (f == 0 ? 0 : line(f - 1))) slips.add(f);
        }
        if (i == -1) return slips.size();
        return in(i, 0, slips.size() - 1) ? slips.get(i) : -1;
    }

    private List<Integer> drawn(int text, int which) {
        List<Integer> numbers = new ArrayList<>();
        Map<Integer, Long> keys = new TreeMap<>();
        for (int i = 0; i < now.flights.size(); i++) {
            Flight f = now.flights.get(i);
            if (f.in(which)) {
                Long key = told(law(text), "key", Map.of("warmth", f.warmth, "press", f.press, "worst", f.worst()));
                keys.put(i, key == null ? 0 : key);
                numbers.add(i);
            }
        }
        numbers.sort((a, b) -> keys.get(a).equals(keys.get(b)) ? a - b : Long.compare(keys.get(a), keys.get(b)));
        return numbers;
    }

    public int picture(int text, int which, int i) {
        if (law(text) == null || !in(which, 0, 1)) return -1;
        List<Integer> list = drawn(text, which);
        return in(i, 0, list.size() - 1) ? list.get(i) : -1;
    }

    public int seen(int text, int which, int what) {
        if (law(text) == null || !in(which, 0, 1) || !in(what, 0, 2)) return -1;
        List<Boolean> bad = drawn(text, which).stream().map(f -> now.flights.get(f).bad(which)).toList();
        if (what == 0) return bad.size();
        if (what == 1) {
            int changes = 0;
            for (int i = 1; i < bad.size(); i++) changes += bad.get(i) == bad.get(i - 1) ? 0 : 1;
            return changes;
        }
        // the most that stay, by how the last that stays is and how many changes there were
        int[][] most = new int[2][2];
        for (boolean b : bad) {
            int k = b ? 1 : 0;
            int[][] next = {most[0].clone(), most[1].clone()};
            next[k][0] = most[k][0] + 1;
            next[k][1] = Math.max(most[k][1], most[1 - k][0]) + 1;
            most = next;
        }
        return bad.size() - Arrays.stream(most).flatMapToInt(Arrays::stream).max().orElse(0);
    }

    public int best(int which) {
        if (!in(which, 0, 1)) return -1;
        int best = -1;
        for (int i = 0; i < now.texts.size(); i++) {
            if (best == -1 || rated(i, which) < rated(best, which)) best = i;
        }
        return best;
    }

    private int rated(int text, int which) {
        return seen(text, which, 1) * 100 + seen(text, which, 2);
    }

    public int talker(int rank, int room, int side, int doubt, int vote) {
        if (!in(rank, 0, 9) || !in(room, 0, 2) || !in(side, 0, 1) || !in(doubt, 0, 100) || !in(vote, 0, 1)) return refuse(-1);
        if (now.talkers.size() == 12) return refuse(-5);
        now.talkers.add(new int[] {rank, room, side, doubt, vote});
        return fine(now.talkers.size() - 1);
    }

    public int sheet(int talker, int minute, int kind, int weight, int rooms) {
        if (!in(minute, 0, 400) || !in(kind, 0, 7) || !in(weight, -50, 50) || !in(rooms, 0, 7)) return refuse(-1);
        if (!in(talker, 0, now.talkers.size() - 1)) return refuse(-2);
        if (now.sheets.size() == 12) return refuse(-5);
        now.sheets.add(new int[] {talker, minute, kind, weight, rooms, 0});
        return fine(now.sheets.size() - 1);
    }

    public int send(int sheet, int sent) {
        if (!in(sent, 0, 1)) return refuse(-1);
        if (!in(sheet, 0, now.sheets.size() - 1)) return refuse(-2);
        int was = now.sheets.get(sheet)[5];
        now.sheets.get(sheet)[5] = sent;
        return fine(was);
    }

    private final class Evening {
        final int[] doubt;
        final int[] proof;
        final boolean[] stops;
        int first = -1;

        Evening(int moves, int against, List<Integer> shown) {
            List<Integer> turns = new ArrayList<>(shown);
            turns.sort((a, b) -> now.sheets.get(a)[1] * 100 + a - now.sheets.get(b)[1] * 100 - b);
            int n = now.talkers.size();
            doubt = now.talkers.stream().mapToInt(t -> t[3]).toArray();
            proof = new int[n];
            stops = new boolean[n];
            for (int s : turns) {
                int[] sheet = now.sheets.get(s);
                for (int t = 0; t < n; t++) {
                    if (t != sheet[0] && (sheet[4] & 1 << now.talkers.get(t)[1]) != 0) show(moves, sheet, t);
                }
                if (first == -1 && Arrays.stream(proof).anyMatch(p -> p == 1)) first = sheet[1];
            }
            for (int t = 0; t < n; t++) {
                stops[t] = now.talkers.get(t)[4] == 1 && told(law(against), "stop", words(t)) != null;
            }
        }

        private Map<String, Integer> words(int t) {
            int[] k = now.talkers.get(t);
            return new TreeMap<>(Map.of("rank", k[0], "room", k[1], "side", k[2], "doubt", doubt[t], "proof", proof[t]));
        }

        private void show(int moves, int[] sheet, int t) {
            if (sheet[2] == 5) {
                if (now.talkers.get(t)[0] < now.talkers.get(sheet[0])[0]) proof[t] = 1;
                return;
            }
            Map<String, Integer> words = words(t);
            words.putAll(Map.of("kind", sheet[2], "weight", sheet[3], "minute", sheet[1]));
            Long told = told(law(moves), "move", words);
            long by = told == null ? 0 : told;
            if (sheet[2] == 6) by = by / 2;
            doubt[t] = (int) Math.max(0, Math.min(100, doubt[t] + by));
        }

        int against() {
            int n = 0;
            for (boolean s : stops) n += s ? 1 : 0;
            return n;
        }

        boolean stopped() {
            return against() >= now.terms[1];
        }
    }

    private List<Integer> sheets(int sent) {
        List<Integer> list = new ArrayList<>();
        for (int s = 0; s < now.sheets.size(); s++) {
            if (now.sheets.get(s)[5] == sent) list.add(s);
        }
        return list;
    }

    private Evening with(int moves, int stops, List<Integer> extra) {
        List<Integer> shown = sheets(1);
        shown.addAll(extra);
        return new Evening(moves, stops, shown);
    }

    private boolean laws(int moves, int stops) {
        return law(moves) != null && law(stops) != null;
    }

    public int talk(int moves, int stops, int what) {
        if (!laws(moves, stops) || !in(what, 0, 2)) return -1;
        Evening e = with(moves, stops, List.of());
        return what == 0 ? e.against() : what == 1 ? (e.stopped() ? 1 : 0) : e.first;
    }

    public int talked(int moves, int stops, int talker, int what) {
        if (!laws(moves, stops) || !in(what, 0, 2) || !in(talker, 0, now.talkers.size() - 1)) return -1;
        Evening e = with(moves, stops, List.of());
        return what == 0 ? e.doubt[talker] : what == 1 ? e.proof[talker] : e.stops[talker] ? 1 : 0;
    }

    private List<Integer> fewest(int moves, int stops) {
        List<Integer> free = sheets(0);
        for (int size = 0; size <= free.size(); size++) {
            List<Integer> found = rows(moves, stops, free, 0, size, List.of());
            if (found != null) return found;
        }
        return null;
    }

    private List<Integer> rows(int moves, int stops, List<Integer> free, int from, int more, List<Integer> row) {
        if (more == 0) return with(moves, stops, row).stopped() ? row : null;
        for (int i = from; i <= free.size() - more; i++) {
            List<Integer> longer = new ArrayList<>(row);
            longer.add(free.get(i));
            List<Integer> found = rows(moves, stops, free, i + 1, more - 1, longer);
            if (found != null) return found;
        }
        return null;
    }

    public int least(int moves, int stops) {
        List<Integer> found = laws(moves, stops) ? fewest(moves, stops) : null;
        return found == null ? -1 : found.size();
    }

    public int more(int moves, int stops, int i) {
        List<Integer> found = laws(moves, stops) ? fewest(moves, stops) : null;
        return found != null && in(i, 0, found.size() - 1) ? found.get(i) : -1;
    }

    public int parts(int moves, int stops, int sheet) {
        if (!laws(moves, stops) || !sheets(0).contains(sheet)) return -1;
        boolean[] a = with(moves, stops, List.of()).stops;
        boolean[] b = with(moves, stops, List.of(sheet)).stops;
        int n = 0;
        for (int t = 0; t < a.length; t++) n += a[t] == b[t] ? 0 : 1;
        return n;
    }

    public int ask(int moves, int stops) {
        if (!laws(moves, stops)) return -1;
        int best = -1;
        for (int s : sheets(0)) {
            if (best == -1 || parts(moves, stops, s) > parts(moves, stops, best)) best = s;
        }
        return best;
    }

    public int worlds(int moves, int stops, int n, int seed) {
        if (!laws(moves, stops) || !in(n, 1, 60) || !in(seed, 0, 1_000_000)) return -1;
        List<Integer> turns = sheets(1);
        turns.sort((a, b) -> now.sheets.get(a)[1] * 100 + a - now.sheets.get(b)[1] * 100 - b);
        long s = seed;
        int stopped = 0;
        for (int w = 0; w < n; w++) {
            List<Integer> shown = new ArrayList<>();
            for (int sheet : turns) {
                s = (s * 1103L + 12345L) % 1_000_003L;
                if (s % 100 >= now.terms[2]) shown.add(sheet);
            }
            if (new Evening(moves, stops, shown).stopped()) stopped++;
        }
        return stopped;
    }

    public int image(int k) {
        if (!in(k, 0, 1)) return refuse(-1);
        images[k] = now.copy();
        return fine(0);
    }

    public int back(int k) {
        if (!in(k, 0, 1)) return refuse(-1);
        if (images[k] == null) return refuse(-2);
        now = images[k].copy();
        return fine(0);
    }

    public int count(int what) {
        if (what >= 9 && what <= 13) return refused.getOrDefault(new int[] {-1, -2, -3, -5, -6}[what - 9], 0);
        switch (what) {
            case 0: return now.flights.size();
            case 1: return now.texts.size();
            case 2: return now.points.size();
            case 3: return now.talkers.size();
            case 4: return now.sheets.size();
            case 5: return sheets(1).size();
            case 6: return chosen(0).size();
            case 7: return chosen(1).size();
            case 8: return tape.length;
            default: return -1;
        }
    }

    public int status() {
        return status;
    }
}
