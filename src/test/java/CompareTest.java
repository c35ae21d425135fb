import java.util.Random;

/** Long runs of calls, drawn by fixed seeds, against the oracle; and calls with any numbers at all. */
public final class CompareTest {
    private static final String[] PIECES = {"unit", "first", "weigh", "fear", "lose", "village", "district",
        "land", "shrine", "rail", "water", "ones", "others", "shrines", "rails", "heads", "villages", "not",
        "and", "or", "+", "-", "*", "/", "<", "<=", "=", "<>", ">=", ">", "(", ")", ";", " ", "\n", "0", "1",
        "9999", "10000", "007", "x", "A", "\u00e9", "!", "\t"};
    private final Random random;
    private final AwardLine x = new AwardLine();
    private final Oracle o = new Oracle();

    private CompareTest(int seed) {
        random = new Random(seed);
    }

    public static void main(String[] args) {
        for (int seed = 0; seed < 500; seed++) {
            new CompareTest(seed).run(seed);
        }
        for (int seed = 0; seed < 100; seed++) {
            new CompareTest(10000 + seed).wild(seed);
        }
        Check.end();
    }

    private int upTo(int most) {
        return random.nextInt(most + 1);
    }

    /** A number of 0 to most, and now and then one just beside. */
    private int near(int most) {
        return random.nextInt(40) == 0 ? (random.nextBoolean() ? -1 : most + 1) : upTo(Math.max(0, most));
    }

    private void run(int seed) {
        int w = 2 + upTo(3);
        int h = 2 + upTo(3);
        if (seed % 3 != 0) {
            w = 2 + upTo(1);
            h = 2 + upTo(1);
        }
        Check.due("land", x.land(w, h), o.land(w, h));
        int calls = 100 + upTo(300);
        for (int i = 0; i < calls; i++) {
            step(seed + "." + i, w * h);
        }
    }

    private int day() {
        return random.nextInt(3) == 0 ? near(999) : Math.max(0, o.counted(0) - upTo(10));
    }

    private int line(int villages) {
        return random.nextInt(40) == 0 ? (random.nextBoolean() ? -1 : 1 << villages) : random.nextInt(1 << villages);
    }

    private void step(String at, int n) {
        switch (upTo(21)) {
            case 0:
            case 1:
                String text = random.nextInt(3) == 0 ? rubbish() : sound();
                feedBoth(at, text);
                break;
            case 2:
                int gone = upTo(20) == 0 ? near(999) : upTo(6);
                Check.due(at + " days", x.days(gone), o.days(gone));
                break;
            case 3:
            case 4:
                villageBoth(at, n);
                break;
            case 5:
                int hand = near(3);
                int err = near(50);
                Check.due(at + " errs", x.errs(hand, err), o.errs(hand, err));
                break;
            case 6:
            case 7:
            case 8:
                countBoth(at, n);
                break;
            case 9:
            case 10:
                noteBoth(at);
                break;
            case 11:
                int struck = near(o.counted(2) - 1);
                Check.due(at + " strike", x.strike(struck), o.strike(struck));
                break;
            case 12:
                int head = near(n - 1);
                Check.due(at + " canal", x.canal(head), o.canal(head));
                break;
            case 13:
                int canal = near(o.counted(3) - 1);
                int drinker = near(n - 1);
                Check.due(at + " drinks", x.drinks(canal, drinker), o.drinks(canal, drinker));
                break;
            case 14:
                int line = line(n);
                Check.due(at + " draft", x.draft(line), o.draft(line));
                break;
            case 15:
                int guarded = near(n - 1);
                Check.due(at + " candidate", x.candidate(guarded), o.candidate(guarded));
                break;
            default:
                ask(at, n);
        }
    }

    private void feedBoth(String at, String text) {
        String whole = text;
        while (whole.length() % 20 != 0) {
            whole += random.nextInt(9) == 0 ? ";" : " ";
        }
        for (int i = 0; i < whole.length(); i += 20) {
            int[] five = new int[5];
            for (int j = 0; j < 20; j++) {
                five[j / 4] = five[j / 4] << 8 | whole.charAt(i + j);
            }
            Check.due(at + " feed", x.feed(five[0], five[1], five[2], five[3], five[4]), o.feed(five));
        }
        int n = random.nextInt(20) == 0 ? upTo(420) - 10 : Math.min(text.length(), 400);
        Check.due(at + " terms of " + text, x.terms(n), o.terms(n));
        for (int what = -1; what < 3; what++) {
            Check.due(at + " fault(" + what + ") of " + text, x.fault(what), o.fault(what));
        }
        Check.due(at + " knots", x.counted(6), o.counted(6));
        Check.due(at + " given", x.given(o.counted(0)), o.given(o.counted(0)));
    }

    private String rubbish() {
        StringBuilder s = new StringBuilder(sound());
        for (int i = upTo(3); i >= 0; i--) {
            s.insert(random.nextInt(s.length() + 1), PIECES[random.nextInt(PIECES.length)]);
        }
        return s.toString();
    }

    private String sound() {
        StringBuilder s = new StringBuilder();
        String[] lines = {"unit " + PIECES[5 + upTo(2)], "first " + rule(upTo(5)), "weigh shrine " + upTo(999),
            "weigh rail" + upTo(200), "weigh water " + upTo(99), "fear " + upTo(100), "lose " + upTo(100)};
        int start = upTo(6);
        int many = random.nextInt(30) == 0 ? 9 : upTo(7);
        for (int i = 0; i < many; i++) {
            s.append(lines[(start + i) % 7]).append(random.nextBoolean() ? ";" : " ;\n");
        }
        return s.toString();
    }

    private String rule(int depth) {
        if (depth == 0) {
            return random.nextInt(3) == 0 ? "" + upTo(20) * upTo(20) * upTo(20) : PIECES[11 + upTo(5)];
        }
        String left = rule(depth - 1);
        String right = rule(random.nextInt(depth));
        switch (upTo(6)) {
            case 0:
                return "not " + left;
            case 1:
                return "(" + left + ")";
            case 2:
                return left + (random.nextBoolean() ? " or " : " and ") + right;
            case 3:
                return left + PIECES[24 + upTo(5)] + right;
            case 4:
                return left + PIECES[20 + upTo(1)] + right;
            case 5:
                return left + PIECES[22 + upTo(1)] + right;
            default:
                return "(" + left + ")" + PIECES[20 + upTo(9)] + "(" + right + ")";
        }
    }

    private void villageBoth(String at, int n) {
        int v = near(n - 1);
        int d = near(5);
        int s = random.nextInt(20) == 0 ? upTo(5) - 3 : upTo(2) - 1;
        boolean r = random.nextInt(3) != 0;
        Check.due(at + " village", x.village(v, d, s, r), o.village(v, d, s, r));
    }

    private void countBoth(String at, int n) {
        int hand = near(3);
        int v = near(n - 1);
        int most = random.nextBoolean() ? 999 : 30;
        int ones = near(most);
        int others = near(most);
        String call = at + " count";
        Check.due(call, x.count(hand, v, ones, others), o.count(hand, v, ones, others));
    }

    private void noteBoth(String at) {
        int what = near(2);
        int a = what == 1 ? near(7) : near(Math.max(0, o.counted(4) - 1));
        int b = near(7);
        int day = Math.max(-1, o.counted(0) + 1 - upTo(8));
        Check.due(at + " note", x.note(what, a, b, day), o.note(what, a, b, day));
    }

    private void ask(String at, int n) {
        int k = day();
        int line = line(n);
        int draft = near(o.counted(4) - 1);
        int what;
        switch (upTo(12)) {
            case 0:
                int v = near(n - 1);
                int side = near(1);
                what = near(2);
                Check.due(at + " span", x.span(v, side, k, what), o.span(v, side, k, what));
                break;
            case 1:
                Check.due(at + " given", x.given(k), o.given(k));
                break;
            case 2:
                int unit = near(2);
                Check.due(at + " turned", x.turned(unit, k), o.turned(unit, k));
                break;
            case 3:
                what = near(1);
                Check.due(at + " look", Check.looked(x, draft, what), o.look(draft, what));
                break;
            case 4:
                what = near(6);
                Check.due(at + " does", x.does(line, k, what), o.does(line, k, what));
                break;
            case 5:
                what = near(1);
                if (n <= 9 || n > 16 || random.nextInt(8) == 0) {
                    Check.due(at + " best", x.best(k, what), o.best(k, what));
                }
                break;
            case 6:
                int asked = random.nextBoolean() ? Math.max(0, o.given(k)) : line;
                Check.due(at + " weights", x.weights(asked, k), o.weights(asked, k));
                break;
            case 7:
                int person = near(7);
                Check.due(at + " knows", x.knows(person, draft, k), o.knows(person, draft, k));
                break;
            case 8:
                for (int i = -1; i <= o.counted(2); i++) {
                    Check.due(at + " explained", x.explained(i, k), o.explained(i, k));
                }
                break;
            case 9:
                Check.due(at + " through", x.through(k), o.through(k));
                break;
            case 10:
                int d = near(20);
                int guards = random.nextInt();
                what = near(2);
                String call = at + " flight";
                Check.due(call, x.flight(line, d, guards, k, what), o.flight(line, d, guards, k, what));
                break;
            case 11:
                guardsBoth(at, k);
                break;
            default:
                what = near(8);
                Check.due(at + " counted", x.counted(what), o.counted(what));
        }
    }

    private void guardsBoth(String at, int k) {
        int m = near(8);
        int bits = near((1 << o.counted(4)) - 1);
        int d = random.nextInt(6) == 0 ? near(20) : 1 + upTo(3);
        if (Integer.bitCount(bits) > 3 || o.counted(5) > 4 && d > 4) {
            return;
        }
        Check.due(at + " guards", x.guards(m, bits, d, k, 0), o.guards(m, bits, d, k, 0));
        Check.due(at + " guards", x.guards(m, bits, d, k, 1), o.guards(m, bits, d, k, 1));
        Check.due(at + " guards", x.guards(m, bits, d, k, 2), -1);
    }

    private int any() {
        switch (upTo(7)) {
            case 0:
                return random.nextInt();
            case 1:
                return Integer.MIN_VALUE + upTo(2);
            case 2:
                return Integer.MAX_VALUE - upTo(2);
            case 3:
                return upTo(1100) - 50;
            default:
                return upTo(26) - 1;
        }
    }

    /** Any numbers: no call throws but look, and it what it may. */
    private void wild(int seed) {
        for (int i = 0; i < 512; i++) {
            try {
                wildCall(upTo(26));
                Check.due("a wild call", 0, 0);
            } catch (RuntimeException e) {
                Check.due("wild run " + seed + ", call " + i + " throws " + e, 1, 0);
            }
        }
    }

    private void wildCall(int which) {
        switch (which) {
            case 0: x.feed(any(), any(), any(), any(), any()); break;
            case 1: x.terms(any()); break;
            case 2: x.fault(any()); break;
            case 3: x.land(upTo(7), upTo(7)); break;
            case 4: x.days(any()); break;
            case 5: x.village(any(), any(), any(), random.nextBoolean()); break;
            case 6: x.errs(any(), any()); break;
            case 7: x.count(any(), any(), any(), any()); break;
            case 8: x.note(any(), any(), any(), any()); break;
            case 9: x.strike(any()); break;
            case 10: x.span(any(), any(), any(), any()); break;
            case 11: x.canal(any()); break;
            case 12: x.drinks(any(), any()); break;
            case 13: x.given(any()); break;
            case 14: x.turned(any(), any()); break;
            case 15: x.draft(any()); break;
            case 16: Check.looked(x, any(), any()); break;
            case 17: x.does(any(), any(), any()); break;
            case 18: x.best(any(), any()); break;
            case 19: x.weights(any(), any()); break;
            case 20: x.knows(any(), any(), any()); break;
            case 21: x.explained(any(), any()); break;
            case 22: x.through(any()); break;
            case 23: x.candidate(any()); break;
            case 24: x.flight(any(), any(), any(), any(), any()); break;
            case 25: x.guards(any(), any(), any(), any(), any()); break;
            default: x.counted(any());
        }
    }
}
