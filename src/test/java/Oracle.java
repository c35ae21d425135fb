import java.util.ArrayDeque;
import java.util.ArrayList;
import java.util.Arrays;
import java.util.HashSet;
import java.util.List;
import java.util.Set;
import java.util.TreeMap;
import java.util.TreeSet;

/**
 * The document once more, for the tests alone: written as slowly and as near to its words as can be,
 * by other ways than the class, so that both can be compared over many runs.
 */
final class Oracle {
    private record Note(int told, String kind, int a, int b, int c, int d) {
    }

    private record Draft(int line, int day) {
    }

    private record Token(String text, int place) {
    }

    private interface Rule {
        long value(TreeMap<String, Long> names) throws Error1;
    }

    /** An ERROR of the rule. */
    private static final class Error1 extends Exception {
        private static final long serialVersionUID = 1;
    }

    /** A FAULT of the text. */
    private static final class Fault extends Exception {
        private static final long serialVersionUID = 1;
        private final int kind;
        private final int place;

        Fault(int kind, int place) {
            this.kind = kind;
            this.place = place;
        }
    }

    private static final class Agreed {
        private int unit = 0;
        private Rule first = null;
        private int knots = 0;
        private final TreeMap<String, Integer> weigh = new TreeMap<>();
        private int fear = 10;
        private int lose = 5;
        private int lines = 0;
    }

    private int today = 0;
    private int w = 3;
    private int h = 3;
    private int[] district = new int[9];
    private int[] shrine = filled(9, -1);
    private boolean[] rail = new boolean[9];
    private final int[] errs = new int[4];
    private final List<Note> notes = new ArrayList<>();
    private final List<List<Integer>> canals = new ArrayList<>();
    private final List<Draft> drafts = new ArrayList<>();
    private final List<Integer> candidates = new ArrayList<>();
    private final List<Integer> tape = new ArrayList<>();
    private Agreed agreed = new Agreed();
    private int fault = 0;
    private int place = -1;

    private static int[] filled(int n, int with) {
        int[] row = new int[n];
        Arrays.fill(row, with);
        return row;
    }

    private static boolean in(int x, int low, int high) {
        return x >= low && x <= high;
    }

    private boolean isVillage(int v) {
        return in(v, 0, w * h - 1);
    }

    private boolean isLine(int line) {
        return in(line, 0, (1 << w * h) - 1);
    }

    int feed(int... numbers) {
        if (tape.size() + 20 > 400) {
            return -1;
        }
        for (int x : numbers) {
            for (int i = 3; i >= 0; i--) {
                tape.add(x >> 8 * i & 255);
            }
        }
        return tape.size();
    }

    int terms(int n) {
        if (n < 0 || n > tape.size()) {
            return -2;
        }
        StringBuilder text = new StringBuilder();
        for (int x : tape.subList(0, n)) {
            text.append((char) x);
        }
        tape.clear();
        fault = 0;
        place = -1;
        try {
            agreed = new Parse(text.toString()).all();
            return agreed.lines;
        } catch (Fault f) {
            fault = f.kind;
            place = f.place;
            return -1;
        }
    }

    int fault(int what) {
        return what == 0 ? fault : what == 1 ? place : -1;
    }

    private static final class Parse {
        private final List<Token> tokens = new ArrayList<>();
        private final Set<String> told = new HashSet<>();
        private final Agreed out = new Agreed();
        private int at = 0;
        private int open = 0;

        Parse(String text) {
            int i = 0;
            while (i < text.length()) {
                int from = i;
                char c = text.charAt(i);
                if (c == 10 || c == 32) {
                    i++;
                    continue;
                }
                String rest = text.substring(i);
                String two = rest.length() > 1 ? rest.substring(0, 2) : "";
                if (c >= 'a' && c <= 'z') {
                    i += run(rest, 'a', 'z');
                } else if (c >= '0' && c <= '9') {
                    i += run(rest, '0', '9');
                } else if (two.equals("<=") || two.equals("<>") || two.equals(">=")) {
                    i += 2;
                } else {
                    i += 1;
                }
                tokens.add(new Token(text.substring(from, i), from));
            }
            tokens.add(new Token("", text.length()));
        }

        private static int run(String s, char low, char high) {
            int n = 0;
            while (n < s.length() && s.charAt(n) >= low && s.charAt(n) <= high) {
                n++;
            }
            return n;
        }

        private String now() {
            return tokens.get(at).text;
        }

        private Fault bad(int kind) {
            return new Fault(kind, tokens.get(at).place);
        }

        private boolean is(String... some) {
            return !now().isEmpty() && Arrays.asList(some).contains(now());
        }

        private void need(String... some) throws Fault {
            if (!is(some)) {
                throw bad(1);
            }
        }

        private void once(String line) throws Fault {
            if (!told.add(line)) {
                throw bad(3);
            }
        }

        private boolean isNumber() {
            return !now().isEmpty() && now().charAt(0) >= '0' && now().charAt(0) <= '9';
        }

        private int number(int most) throws Fault {
            if (!isNumber()) {
                throw bad(1);
            }
            java.math.BigInteger n = new java.math.BigInteger(now());
            if (n.compareTo(java.math.BigInteger.valueOf(most)) > 0) {
                throw bad(2);
            }
            return n.intValue();
        }

        private void knot() throws Fault {
            out.knots++;
            if (out.knots > 64) {
                throw bad(2);
            }
        }

        Agreed all() throws Fault {
            while (!now().isEmpty()) {
                line();
                need(";");
                at++;
                out.lines++;
            }
            return out;
        }

        private void line() throws Fault {
            need("unit", "first", "weigh", "fear", "lose");
            String word = now();
            if (!word.equals("weigh")) {
                once(word);
            }
            at++;
            if (word.equals("unit")) {
                need("village", "district", "land");
                out.unit = Arrays.asList("village", "district", "land").indexOf(now());
                at++;
            } else if (word.equals("first")) {
                out.first = e();
            } else if (word.equals("weigh")) {
                need("shrine", "rail", "water");
                String what = now();
                once("weigh " + what);
                at++;
                out.weigh.put(what, number(999));
                at++;
            } else if (word.equals("fear")) {
                out.fear = number(100);
                at++;
            } else {
                out.lose = number(100);
                at++;
            }
        }

        private String sign() throws Fault {
            String s = now();
            knot();
            at++;
            return s;
        }

        private Rule e() throws Fault {
            Rule left = a();
            while (is("or")) {
                left = two(sign(), left, a());
            }
            return left;
        }

        private Rule a() throws Fault {
            Rule left = b();
            while (is("and")) {
                left = two(sign(), left, b());
            }
            return left;
        }

        private Rule b() throws Fault {
            if (is("not")) {
                sign();
                Rule of = b();
                return names -> of.value(names) == 0 ? 1 : 0;
            }
            return c();
        }

        private Rule c() throws Fault {
            Rule left = s();
            if (is("<", "<=", "=", "<>", ">=", ">")) {
                left = two(sign(), left, s());
            }
            return left;
        }

        private Rule s() throws Fault {
            Rule left = t();
            while (is("+", "-")) {
                left = two(sign(), left, t());
            }
            return left;
        }

        private Rule t() throws Fault {
            Rule left = p();
            while (is("*", "/")) {
                left = two(sign(), left, p());
            }
            return left;
        }

        private Rule p() throws Fault {
            if (is("(")) {
                open++;
                if (open > 8) {
                    throw bad(2);
                }
                at++;
                Rule inside = e();
                need(")");
                at++;
                open--;
                return inside;
            }
            if (isNumber()) {
                long n = number(9999);
                sign();
                return names -> n;
            }
            need("ones", "others", "shrines", "rails", "heads", "villages");
            String name = sign();
            return names -> names.get(name);
        }

        private static Rule two(String sign, Rule left, Rule right) {
            return names -> {
                java.math.BigInteger a = java.math.BigInteger.valueOf(left.value(names));
                java.math.BigInteger b = java.math.BigInteger.valueOf(right.value(names));
                int order = a.compareTo(b);
                boolean holds;
                switch (sign) {
                    case "+":
                        return fit(a.add(b));
                    case "-":
                        return fit(a.subtract(b));
                    case "*":
                        return fit(a.multiply(b));
                    case "/":
                        if (b.signum() == 0) {
                            throw new Error1();
                        }
                        return fit(a.divide(b));
                    case "<":
                        holds = order < 0;
                        break;
                    case "<=":
                        holds = order <= 0;
                        break;
                    case "=":
                        holds = order == 0;
                        break;
                    case "<>":
                        holds = order != 0;
                        break;
                    case ">=":
                        holds = order >= 0;
                        break;
                    case ">":
                        holds = order > 0;
                        break;
                    case "and":
                        holds = a.signum() != 0 && b.signum() != 0;
                        break;
                    default:
                        holds = a.signum() != 0 || b.signum() != 0;
                }
                return holds ? 1 : 0;
            };
        }

        private static long fit(java.math.BigInteger v) throws Error1 {
            if (v.abs().compareTo(java.math.BigInteger.TEN.pow(12)) > 0) {
                throw new Error1();
            }
            return v.longValue();
        }
    }

    boolean land(int w, int h) {
        if (!in(w, 2, 5) || !in(h, 2, 5)) {
            return false;
        }
        this.w = w;
        this.h = h;
        district = new int[w * h];
        shrine = filled(w * h, -1);
        rail = new boolean[w * h];
        notes.clear();
        canals.clear();
        drafts.clear();
        candidates.clear();
        return true;
    }

    int days(int n) {
        if (!in(n, 0, 999) || today + n > 999) {
            return -1;
        }
        today += n;
        return today;
    }

    boolean village(int v, int d, int s, boolean r) {
        if (!isVillage(v) || !in(d, 0, 5) || !in(s, -1, 1)) {
            return false;
        }
        district[v] = d;
        shrine[v] = s;
        rail[v] = r;
        return true;
    }

    boolean errs(int hand, int of100) {
        if (!in(hand, 0, 3) || !in(of100, 0, 50)) {
            return false;
        }
        errs[hand] = of100;
        return true;
    }

    private int add(String kind, int a, int b, int c, int d) {
        if (notes.size() == 80) {
            return -1;
        }
        notes.add(new Note(today, kind, a, b, c, d));
        return notes.size() - 1;
    }

    int count(int hand, int v, int ones, int others) {
        if (!in(hand, 0, 3) || !isVillage(v) || !in(ones, 0, 999) || !in(others, 0, 999)) {
            return -1;
        }
        return add("count", hand, v, ones, others);
    }

    int note(int what, int a, int b, int day) {
        if (!in(what, 0, 2) || !in(day, 0, today) || !in(b, 0, 7)) {
            return -1;
        }
        if (what == 1) {
            return in(a, 0, 7) && a != b ? add("meeting", a, b, day, 0) : -1;
        }
        if (!in(a, 0, drafts.size() - 1) || what == 0 && day < drafts.get(a).day) {
            return -1;
        }
        return add(what == 0 ? "sight" : "act", a, b, day, 0);
    }

    int strike(int note) {
        return in(note, 0, notes.size() - 1) ? add("strike", note, 0, 0, 0) : -1;
    }

    private boolean isKnown(int note, int k) {
        if (notes.get(note).told > k) {
            return false;
        }
        for (int j = note + 1; j < notes.size(); j++) {
            if (notes.get(j).kind.equals("strike") && notes.get(j).a == note && isKnown(j, k)) {
                return false;
            }
        }
        return true;
    }

    private List<Note> known(int k, String kind) {
        List<Note> some = new ArrayList<>();
        for (int i = 0; i < notes.size(); i++) {
            if (notes.get(i).kind.equals(kind) && isKnown(i, k)) {
                some.add(notes.get(i));
            }
        }
        return some;
    }

    /** Every number that the counts let, or all of 0 to 999 without any. */
    private TreeSet<Integer> let(int v, int side, int k) {
        List<Note> counts = known(k, "count");
        counts.removeIf(n -> n.b != v);
        TreeSet<Integer> some = new TreeSet<>();
        for (int x = 0; x <= (counts.isEmpty() ? 999 : 1600); x++) {
            boolean fits = true;
            for (Note n : counts) {
                int told = side == 0 ? n.c : n.d;
                int e = errs[n.a];
                // x is at least the share, down, and at most the share, up.
                fits &= 100 * (x + 1) > told * (100 - e) && 100 * (x - 1) < told * (100 + e);
            }
            if (fits) {
                some.add(x);
            }
        }
        return some;
    }

    private int people(int v, int side, int k) {
        TreeSet<Integer> some = let(v, side, k);
        return some.isEmpty() ? 0 : (some.first() + some.last()) / 2;
    }

    int span(int v, int side, int k, int what) {
        if (!isVillage(v) || !in(side, 0, 1) || !in(k, 0, 999) || !in(what, 0, 2)) {
            return -1;
        }
        if (what == 2) {
            return people(v, side, k);
        }
        TreeSet<Integer> some = let(v, side, k);
        return some.isEmpty() ? -2 : what == 0 ? some.first() : some.last();
    }

    int canal(int head) {
        if (!isVillage(head) || canals.size() == 6) {
            return -1;
        }
        canals.add(new ArrayList<>(List.of(head)));
        return canals.size() - 1;
    }

    int drinks(int canal, int v) {
        if (!in(canal, 0, canals.size() - 1) || !isVillage(v)) {
            return -1;
        }
        List<Integer> row = canals.get(canal);
        if (row.contains(v) || row.size() == 6) {
            return -1;
        }
        row.add(v);
        return row.size() - 1;
    }

    private int[][] everybody(int k) {
        int[][] all = new int[2][w * h];
        for (int v = 0; v < w * h; v++) {
            all[0][v] = people(v, 0, k);
            all[1][v] = people(v, 1, k);
        }
        return all;
    }

    private int lineBy(int unit, int k) {
        int[][] all = everybody(k);
        TreeMap<Integer, List<Integer>> units = new TreeMap<>();
        for (int v = 0; v < w * h; v++) {
            int key = unit == 0 ? v : unit == 1 ? district[v] : 0;
            units.computeIfAbsent(key, x -> new ArrayList<>()).add(v);
        }
        int line = 0;
        for (List<Integer> some : units.values()) {
            if (goesToFirst(some, all)) {
                for (int v : some) {
                    line |= 1 << v;
                }
            }
        }
        return line;
    }

    private boolean goesToFirst(List<Integer> some, int[][] all) {
        TreeMap<String, Long> names = new TreeMap<>();
        for (String s : List.of("ones", "others", "shrines", "rails", "heads", "villages")) {
            names.put(s, 0L);
        }
        for (int v : some) {
            names.merge("ones", (long) all[0][v], Long::sum);
            names.merge("others", (long) all[1][v], Long::sum);
            names.merge("shrines", shrine[v] == 0 ? 1L : shrine[v] == 1 ? -1L : 0L, Long::sum);
            names.merge("rails", rail[v] ? 1L : 0L, Long::sum);
            names.merge("heads", canals.stream().anyMatch(c -> c.get(0) == v) ? 1L : 0L, Long::sum);
            names.merge("villages", 1L, Long::sum);
        }
        if (agreed.first == null) {
            return names.get("ones") > names.get("others");
        }
        try {
            return agreed.first.value(names) != 0;
        } catch (Error1 e) {
            return false;
        }
    }

    int given(int k) {
        return in(k, 0, 999) ? lineBy(agreed.unit, k) : -1;
    }

    int turned(int unit, int k) {
        if (!in(unit, 0, 2) || !in(k, 0, 999)) {
            return -1;
        }
        return Integer.bitCount(lineBy(unit, k) ^ lineBy(agreed.unit, k));
    }

    int draft(int line) {
        if (!isLine(line) || drafts.size() == 12) {
            return -1;
        }
        drafts.add(new Draft(line, today));
        return drafts.size() - 1;
    }

    int look(int draft, int what) {
        if (!in(draft, 0, drafts.size() - 1)) {
            return -101;
        }
        return what == 0 ? drafts.get(draft).line : what == 1 ? drafts.get(draft).day : -102;
    }

    private static int side(int line, int v) {
        return (line >> v & 1) == 1 ? 0 : 1;
    }

    private List<Integer> beside(int v) {
        int x = v % w;
        int y = v / w;
        List<Integer> some = new ArrayList<>();
        if (y > 0) {
            some.add(v - w);
        }
        if (x > 0) {
            some.add(v - 1);
        }
        if (x < w - 1) {
            some.add(v + 1);
        }
        if (y < h - 1) {
            some.add(v + w);
        }
        return some;
    }

    private int pieces(int line, int side) {
        boolean[] seen = new boolean[w * h];
        int n = 0;
        for (int v = 0; v < w * h; v++) {
            if (seen[v] || side(line, v) != side) {
                continue;
            }
            n++;
            ArrayDeque<Integer> todo = new ArrayDeque<>(List.of(v));
            while (!todo.isEmpty()) {
                int u = todo.pop();
                if (!seen[u]) {
                    seen[u] = true;
                    for (int t : beside(u)) {
                        if (side(line, t) == side) {
                            todo.push(t);
                        }
                    }
                }
            }
        }
        return n;
    }

    private int effect(int line, int[][] all, int what) {
        int n = 0;
        switch (what) {
            case 0:
                for (int v = 0; v < w * h; v++) {
                    n += all[1 - side(line, v)][v];
                }
                return n;
            case 1:
            case 2:
                return pieces(line, what - 1);
            case 3:
                for (List<Integer> row : canals) {
                    for (int v : row) {
                        n += side(line, v) != side(line, row.get(0)) ? 1 : 0;
                    }
                }
                return n;
            case 4:
                for (int v = 0; v < w * h; v++) {
                    for (int u : beside(v)) {
                        n += u > v && rail[u] && rail[v] && side(line, u) != side(line, v) ? 1 : 0;
                    }
                }
                return n;
            case 5:
                for (int v = 0; v < w * h; v++) {
                    n += shrine[v] >= 0 && shrine[v] != side(line, v) ? 1 : 0;
                }
                return n;
            default:
                return effect(line, all, 0) + agreed.weigh.getOrDefault("shrine", 0) * effect(line, all, 5)
                        + agreed.weigh.getOrDefault("rail", 0) * effect(line, all, 4)
                        + agreed.weigh.getOrDefault("water", 0) * effect(line, all, 3);
        }
    }

    int does(int line, int k, int what) {
        if (!isLine(line) || !in(k, 0, 999) || !in(what, 0, 6)) {
            return -1;
        }
        return effect(line, everybody(k), what);
    }

    int best(int k, int what) {
        if (!in(k, 0, 999) || !in(what, 0, 1) || w * h > 16) {
            return -1;
        }
        int[][] all = everybody(k);
        int bestLine = -1;
        int bestHarm = 0;
        for (int line = 0; line < 1 << w * h; line++) {
            if (pieces(line, 0) <= 1 && pieces(line, 1) <= 1) {
                int harm = effect(line, all, 6);
                if (bestLine < 0 || harm < bestHarm) {
                    bestLine = line;
                    bestHarm = harm;
                }
            }
        }
        return what == 0 ? bestLine : bestHarm;
    }

    int weights(int line, int k) {
        if (!isLine(line) || !in(k, 0, 999)) {
            return -1;
        }
        int[][] all = everybody(k);
        for (int abc = 0; abc < 1000; abc++) {
            int made = 0;
            for (int v = 0; v < w * h; v++) {
                int sum = abc / 100 * (all[0][v] - all[1][v]);
                sum += shrine[v] == 0 ? 10 * (abc / 10 % 10) : shrine[v] == 1 ? -10 * (abc / 10 % 10) : 0;
                for (int u : beside(v)) {
                    sum += 10 * (abc % 10) * (side(line, u) == 0 ? 1 : -1);
                }
                made |= sum > 0 ? 1 << v : 0;
            }
            if (made == line) {
                return abc;
            }
        }
        return -1;
    }

    /** Day by day: who can know it by the end of the day. 1000 is never. */
    private int[] since(int draft, int k, int silent) {
        int[] from = filled(8, 1000);
        List<Note> sights = known(k, "sight");
        List<Note> meetings = known(k, "meeting");
        for (int day = 0; day <= 999; day++) {
            for (Note n : sights) {
                if (n.a == draft && n.c == day) {
                    from[n.b] = Math.min(from[n.b], day);
                }
            }
            boolean more = true;
            while (more) {
                more = false;
                for (Note n : meetings) {
                    if (n.c == day) {
                        boolean one = from[n.a] <= day;
                        boolean two = from[n.b] <= day;
                        if (one && !two && n.a != silent) {
                            from[n.b] = day;
                            more = true;
                        }
                        if (two && !one && n.b != silent) {
                            from[n.a] = day;
                            more = true;
                        }
                    }
                }
            }
        }
        return from;
    }

    int knows(int person, int draft, int k) {
        if (!in(person, 0, 7) || !in(draft, 0, drafts.size() - 1) || !in(k, 0, 999)) {
            return -1;
        }
        int from = since(draft, k, -1)[person];
        return from == 1000 ? -1 : from;
    }

    int explained(int note, int k) {
        if (!in(note, 0, notes.size() - 1) || !in(k, 0, 999) || !isKnown(note, k)) {
            return -1;
        }
        Note act = notes.get(note);
        if (!act.kind.equals("act")) {
            return -1;
        }
        for (Note n : known(k, "sight")) {
            if (n.a == act.a && n.b == act.b && n.c <= act.c) {
                return 2;
            }
        }
        return since(act.a, k, -1)[act.b] <= act.c ? 1 : 0;
    }

    int through(int k) {
        if (!in(k, 0, 999)) {
            return -1;
        }
        int bits = 0;
        for (int draft = 0; draft < drafts.size(); draft++) {
            List<Note> acts = known(k, "act");
            int about = draft;
            acts.removeIf(n -> n.a != about);
            for (int p = 0; p < 8 && !acts.isEmpty(); p++) {
                int[] all = since(draft, k, -1);
                int[] without = since(draft, k, p);
                for (Note n : acts) {
                    bits |= all[n.b] <= n.c && without[n.b] > n.c ? 1 << p : 0;
                }
            }
        }
        return bits;
    }

    int candidate(int v) {
        if (!isVillage(v) || candidates.contains(v) || candidates.size() == 8) {
            return -1;
        }
        candidates.add(v);
        return candidates.size() - 1;
    }

    private int steps(int from, int line, int side) {
        int best = 1000;
        for (int v = 0; v < w * h; v++) {
            if (side(line, v) == side) {
                best = Math.min(best, Math.abs(v % w - from % w) + Math.abs(v / w - from / w));
            }
        }
        return best;
    }

    /** LOST, still on the wrong side, the greatest number in one village. */
    private int[] flee(int line, int d, int guards, int[][] start) {
        int n = w * h;
        int[][] there = {start[0].clone(), start[1].clone()};
        int lost = 0;
        for (int day = 0; day < d; day++) {
            int[][] next = {there[0].clone(), there[1].clone()};
            for (int s = 0; s < 2; s++) {
                for (int v = 0; v < n; v++) {
                    int to = -1;
                    for (int u : beside(v)) {
                        if (steps(u, line, s) < 1000 && (to < 0 || steps(u, line, s) < steps(to, line, s))) {
                            to = u;
                        }
                    }
                    if (side(line, v) == s || to < 0) {
                        continue;
                    }
                    int go = -Math.floorDiv(-there[s][v] * agreed.fear, 100);
                    int gone = -Math.floorDiv(-go * agreed.lose, 100);
                    int at = candidates.indexOf(v);
                    if (at >= 0 && (guards >> at & 1) == 1) {
                        gone = 0;
                    }
                    next[s][v] -= go;
                    next[s][to] += go - gone;
                    lost += gone;
                }
            }
            there = next;
        }
        int wrong = 0;
        int most = 0;
        for (int v = 0; v < n; v++) {
            wrong += there[1 - side(line, v)][v];
            most = Math.max(most, there[0][v] + there[1][v]);
        }
        return new int[] {lost, wrong, most};
    }

    int flight(int line, int d, int guards, int k, int what) {
        if (!isLine(line) || !in(d, 0, 20) || !in(k, 0, 999) || !in(what, 0, 2)) {
            return -1;
        }
        return flee(line, d, guards, everybody(k))[what];
    }

    int guards(int m, int bits, int d, int k, int what) {
        if (!in(m, 0, 8) || !in(bits, 1, (1 << drafts.size()) - 1) || !in(d, 1, 20) || !in(k, 0, 999) || !in(what, 0, 1)) {
            return -1;
        }
        int[][] all = everybody(k);
        int best = -1;
        int bestLost = 0;
        for (int g = 0; g < 1 << candidates.size(); g++) {
            if (Integer.bitCount(g) > m) {
                continue;
            }
            int worst = 0;
            for (int i = 0; i < drafts.size(); i++) {
                if ((bits >> i & 1) == 1) {
                    worst = Math.max(worst, flee(drafts.get(i).line, d, g, all)[0]);
                }
            }
            boolean better = best < 0 || worst < bestLost
                    || worst == bestLost && Integer.bitCount(g) < Integer.bitCount(best);
            if (better) {
                best = g;
                bestLost = worst;
            }
        }
        return what == 0 ? best : bestLost;
    }

    int counted(int what) {
        switch (what) {
            case 0:
                return today;
            case 1:
                return w * h;
            case 2:
                return notes.size();
            case 3:
                return canals.size();
            case 4:
                return drafts.size();
            case 5:
                return candidates.size();
            case 6:
                return agreed.knots;
            case 7:
                return agreed.fear;
            case 8:
                return agreed.lose;
            default:
                return -1;
        }
    }
}
