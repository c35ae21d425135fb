/** Promises 12, 19, 20 and 21: spans, what a line does, the best one, and weights that give one. */
public final class LineTest {
    public static void main(String[] args) {
        promise12Span();
        promise12HandsThatErr();
        promise12Quarrel();
        promise12WrongOnes();
        promise19People();
        promise19Pieces();
        promise19CutSeveredDesecrated();
        promise19Harm();
        promise20Best();
        promise20OnePieceEach();
        promise20LeastBits();
        promise20Spent();
        promise21Weights();
        Check.end();
    }

    private static void spans(AwardLine x, int village, int side, int known, int... want) {
        for (int what = 0; what < 3; what++) {
            String call = "span(" + village + ", " + side + ", " + known + ", " + what + ")";
            Check.due(call, x.span(village, side, known, what), want[what]);
        }
    }

    private static void promise12Span() {
        AwardLine x = new AwardLine();
        spans(x, 8, 1, 999, 0, 999, 499);
        x.days(10);
        x.count(0, 8, 30, 41);
        spans(x, 8, 0, 10, 30, 30, 30);
        spans(x, 8, 1, 10, 41, 41, 41);
        spans(x, 8, 1, 999, 41, 41, 41);
        spans(x, 8, 1, 9, 0, 999, 499);
        spans(x, 7, 0, 10, 0, 999, 499);
    }

    private static void promise12HandsThatErr() {
        AwardLine x = new AwardLine();
        x.errs(1, 10);
        x.errs(2, 33);
        x.errs(3, 50);
        x.count(1, 0, 15, 0);
        // 13.5 down, 16.5 up
        spans(x, 0, 0, 0, 13, 17, 15);
        spans(x, 0, 1, 0, 0, 0, 0);
        x.count(2, 0, 12, 1);
        // 8.04 down, 15.96 up
        spans(x, 0, 0, 0, 13, 16, 14);
        spans(x, 0, 1, 0, 0, 0, 0);
        x.count(3, 1, 999, 3);
        // 499.5 down, 1498.5 up; 1.5 down, 4.5 up
        spans(x, 1, 0, 0, 499, 1499, 999);
        spans(x, 1, 1, 0, 1, 5, 3);
        x.count(1, 1, 999, 6);
        spans(x, 1, 0, 0, 899, 1099, 999);
        spans(x, 1, 1, 0, 5, 5, 5);
    }

    private static void promise12Quarrel() {
        AwardLine x = new AwardLine();
        x.count(0, 0, 10, 10);
        x.count(1, 0, 11, 10);
        spans(x, 0, 0, 0, -2, -2, 0);
        spans(x, 0, 1, 0, 10, 10, 10);
        x.errs(1, 5);
        spans(x, 0, 0, 0, 10, 10, 10);
        x.count(2, 0, 9, 9);
        spans(x, 0, 0, 0, -2, -2, 0);
        x.strike(2);
        spans(x, 0, 0, 0, 10, 10, 10);
    }

    private static void promise12WrongOnes() {
        AwardLine x = new AwardLine();
        int[][] none = {{-1, 0, 0, 0}, {9, 0, 0, 0}, {0, -1, 0, 0}, {0, 2, 0, 0}, {0, 0, -1, 0}, {0, 0, 1000, 0},
            {0, 0, 0, -1}, {0, 0, 0, 3}};
        for (int[] n : none) {
            Check.due("a span of none", x.span(n[0], n[1], n[2], n[3]), -1);
        }
    }

    /** Three by two, by hand 0, who doesn't err, on day 0. */
    private static AwardLine land() {
        AwardLine x = new AwardLine();
        x.land(3, 2);
        int[][] people = {{10, 1}, {20, 2}, {30, 3}, {4, 40}, {5, 50}, {6, 60}};
        for (int v = 0; v < 6; v++) {
            x.count(0, v, people[v][0], people[v][1]);
        }
        return x;
    }

    private static void promise19People() {
        AwardLine x = land();
        Check.due("all right", x.does(7, 0, 0), 6 + 15);
        Check.due("all on side 1", x.does(0, 0, 0), 75);
        Check.due("all on side 0", x.does(63, 0, 0), 156);
        Check.due("line 8", x.does(8, 0, 0), 60 + 40 + 11);
        x.days(1);
        x.count(1, 0, 0, 0);
        Check.due("with a quarrel", x.does(0, 1, 0), 65);
        Check.due("as known before", x.does(0, 0, 0), 75);
        int[][] none = {{-1, 0, 0}, {64, 0, 0}, {0, -1, 0}, {0, 1000, 0}, {0, 0, -1}, {0, 0, 7}};
        for (int[] n : none) {
            Check.due("does of none", x.does(n[0], n[1], n[2]), -1);
        }
    }

    private static void pieces(AwardLine x, int line, int ones, int others) {
        Check.due("pieces of side 0 of " + line, x.does(line, 0, 1), ones);
        Check.due("pieces of side 1 of " + line, x.does(line, 0, 2), others);
    }

    private static void promise19Pieces() {
        AwardLine x = land();
        pieces(x, 0, 0, 1);
        pieces(x, 63, 1, 0);
        pieces(x, 7, 1, 1);
        pieces(x, 0b010101, 3, 3);
        pieces(x, 0b010010, 1, 2);
        // 2 and 3 are neighbours by number alone
        pieces(x, 0b001100, 2, 1);
        x.land(5, 5);
        pieces(x, 0b1010101010101010101010101, 13, 12);
        // a ring of side 0, one of side 1 in it, one village of side 0 in that
        pieces(x, 0b1111110001101011000111111, 2, 1);
        x.land(2, 5);
        pieces(x, 0b0110011001, 5, 5);
        pieces(x, 0b0101010101, 1, 1);
    }

    private static void promise19CutSeveredDesecrated() {
        AwardLine x = land();
        x.canal(0);
        x.drinks(0, 1);
        x.drinks(0, 5);
        x.canal(5);
        x.drinks(1, 0);
        Check.due("cut of 1", x.does(1, 0, 3), 3);
        Check.due("cut of 3", x.does(3, 0, 3), 2);
        Check.due("cut of 32 and 1", x.does(33, 0, 3), 1);
        Check.due("cut of 0", x.does(0, 0, 3), 0);
        Check.due("cut of 2", x.does(2, 0, 3), 1);
        for (int v = 0; v < 5; v++) {
            x.village(v, 0, v == 2 ? -1 : v & 1, v != 1);
        }
        // rails at 0, 2, 3, 4: beside are 0 and 3, 3 and 4
        Check.due("severed of 8", x.does(8, 0, 4), 2);
        Check.due("severed of 9", x.does(9, 0, 4), 1);
        Check.due("severed of 1", x.does(1, 0, 4), 1);
        Check.due("severed of 4", x.does(4, 0, 4), 0);
        Check.due("severed of 25", x.does(25, 0, 4), 0);
        // shrines of side 0 at 0 and 4, of side 1 at 1 and 3
        Check.due("desecrated of 17", x.does(17, 0, 5), 0);
        Check.due("desecrated of 0", x.does(0, 0, 5), 2);
        Check.due("desecrated of 10", x.does(10, 0, 5), 4);
        Check.due("desecrated of 36", x.does(36, 0, 5), 2);
    }

    private static void promise19Harm() {
        AwardLine x = land();
        x.village(0, 0, 1, true);
        x.village(1, 0, 1, true);
        x.village(3, 0, -1, true);
        x.canal(4);
        x.drinks(0, 0);
        x.drinks(0, 1);
        x.drinks(0, 2);
        Check.due("without weights", x.does(1, 0, 6), x.does(1, 0, 0));
        Check.terms(x, "weigh shrine 100;");
        Check.due("shrines", x.does(1, 0, 6), 66 + 100);
        Check.terms(x, "weigh rail 100;");
        Check.due("rails", x.does(1, 0, 6), 66 + 200);
        Check.terms(x, "weigh water 100;");
        Check.due("water", x.does(3, 0, 6), 48 + 200);
        Check.terms(x, "weigh shrine 1;weigh rail 10;weigh water 100;");
        Check.due("all", x.does(7, 0, 6), 21 + 2 + 10 + 300);
    }

    private static void promise20Best() {
        AwardLine x = land();
        Check.due("best line", x.best(0, 0), 7);
        Check.due("best harm", x.best(0, 1), 21);
        x.canal(3);
        x.drinks(0, 0);
        x.drinks(0, 1);
        Check.terms(x, "weigh water 12;");
        // 0 on side 1 costs 10 for 1, 1 with it 20 for 2, both are cut at 12 each else
        Check.due("with water", x.best(0, 0), 6);
        Check.due("its harm", x.best(0, 1), 21 + 9 + 12);
        x.village(1, 0, -1, true);
        x.village(4, 0, -1, true);
        Check.terms(x, "weigh rail 17;");
        // between 1 and 4 lies 17, 18 if 1 goes over, and then 0 and 2 are parted
        Check.due("with rails", x.best(0, 0), 7);
        Check.due("with rails, harm", x.best(0, 1), 21 + 17);
        x.village(0, 0, -1, true);
        x.village(2, 0, -1, true);
        Check.terms(x, "weigh rail 10;");
        Check.due("with more rails", x.best(0, 1), 21 + 10);
        Check.terms(x, "weigh water 12;");
        x.days(2);
        x.count(1, 1, 999, 2);
        Check.due("best(-1, 0)", x.best(-1, 0), -1);
        Check.due("best(1000, 0)", x.best(1000, 0), -1);
        Check.due("best(0, 2)", x.best(0, 2), -1);
        Check.due("best(0, -1)", x.best(0, -1), -1);
        Check.due("as known before", x.best(1, 1), 42);
    }

    private static void promise20OnePieceEach() {
        AwardLine x = new AwardLine();
        x.land(3, 2);
        for (int v = 0; v < 6; v++) {
            x.count(0, v, v == 0 || v == 2 ? 10 : 0, v == 1 ? 3 : v > 2 ? 2 : 0);
        }
        // 0 and 2 alone would be two pieces: over 1 costs 3
        Check.due("joined", x.best(0, 0), 7);
        Check.due("joined, harm", x.best(0, 1), 3);
        x.count(0, 4, 0, 2);
        x.count(1, 1, 0, 3);
        x.village(1, 0, 1, false);
        x.village(4, 0, 1, false);
        Check.terms(x, "weigh shrine 5;");
        // over 1: 8; 3, 4, 5 round it: 6 and 5, but 1 is a side in one piece then
        Check.due("still over 1", x.best(0, 1), 8);
        x.village(1, 0, 1, true);
        Check.terms(x, "weigh shrine 50;");
        Check.due("one of both is given up", x.best(0, 0), 1);
        Check.due("it costs 10", x.best(0, 1), 10);
    }

    private static void promise20LeastBits() {
        AwardLine x = new AwardLine();
        x.land(2, 2);
        for (int v = 0; v < 4; v++) {
            x.count(0, v, 5, 5);
        }
        Check.due("of all the least bits", x.best(0, 0), 0);
        x.land(2, 2);
        x.count(0, 0, 9, 0);
        x.count(0, 1, 5, 5);
        x.count(0, 2, 0, 9);
        x.count(0, 3, 4, 4);
        Check.due("0 alone", x.best(0, 0), 1);
        Check.due("harm", x.best(0, 1), 9);
    }

    private static void promise20Spent() {
        AwardLine x = new AwardLine();
        int[][] lands = {{4, 4, 1}, {5, 3, 1}, {3, 5, 1}, {4, 5, 0}, {5, 4, 0}, {5, 5, 0}};
        for (int[] l : lands) {
            x.land(l[0], l[1]);
            for (int v = 0; v < l[0] * l[1]; v++) {
                x.count(0, v, v % 5, 3);
            }
            String call = "best of " + l[0] + " by " + l[1];
            Check.due(call, x.best(0, 0) >= 0, l[2] == 1);
            Check.due(call, x.best(0, 1) >= 0, l[2] == 1);
        }
        x.land(4, 4);
        for (int v = 0; v < 16; v++) {
            boolean ring = v < 4 || v > 11 || v % 4 == 0 || v % 4 == 3;
            x.count(0, v, ring ? 20 : 0, ring ? 0 : 1);
        }
        Check.due("a ring", x.best(0, 0), 0xf99f);
        Check.due("a ring, harm", x.best(0, 1), 0);
    }

    private static AwardLine square(int... surplus) {
        AwardLine x = new AwardLine();
        x.land(2, 2);
        for (int v = 0; v < 4; v++) {
            x.count(0, v, Math.max(0, surplus[v]), Math.max(0, -surplus[v]));
        }
        return x;
    }

    private static void promise21Edges() {
        Check.due("above 0 by one", square(1, 0, 0, 0).weights(1, 0), 100);
        AwardLine b = square(0, 0, 0, -1);
        b.village(0, 0, 0, false);
        Check.due("a shrine", b.weights(1, 0), 10);
        // a shrine of 10 b has to be above 89 a: b 9
        AwardLine nine = square(-89, 1, 0, 0);
        nine.village(0, 0, 0, false);
        Check.due("b 9", nine.weights(3, 0), 190);
        AwardLine ten = square(-90, 1, 0, 0);
        ten.village(0, 0, 0, false);
        Check.due("b 10 is too much", ten.weights(3, 0), -1);
        // 0, 1, 2 by c: 0 has both beside, 1 and 2 one of each; 3 has both beside too
        Check.due("c 9", square(-179, 1, 1, -180).weights(7, 0), 109);
        Check.due("c 10 is too much", square(-180, 1, 1, -180).weights(7, 0), -1);
        // 0: 2 a less 10 b is above 0, 1: 10 b is
        AwardLine a = square(2, 0, 0, 0);
        a.village(0, 0, 1, false);
        a.village(1, 0, 0, false);
        Check.due("a 6, b 1", a.weights(3, 0), 610);
        // 10 c lies between 6 a and 7 a, 10 b between 4 a and 5 a: that no a below 9 lets
        AwardLine most = square(-12, -4, 5, -14);
        most.village(1, 0, 0, false);
        most.village(2, 0, 1, false);
        Check.due("a 9, b 4, c 6", most.weights(7, 0), 946);
    }

    private static void promise21Weights() {
        AwardLine x = land();
        Check.due("nothing weighs", x.weights(0, 0), 0);
        Check.due("people alone", x.weights(7, 0), 100);
        Check.due("all on side 0, by those beside", x.weights(63, 0), 1);
        Check.due("none", x.weights(0b010101, 0), -1);
        x.village(3, 0, 0, false);
        Check.due("a shrine alone", x.weights(8, 0), 10);
        // 3 has 36 too few: 10 times 4 above them, the others by a 1
        Check.due("people and a shrine", x.weights(15, 0), 140);
        x.village(3, 0, 1, false);
        Check.due("a shrine of side 1", x.weights(8, 0), -1);
        int[][] none = {{-1, 0}, {64, 0}, {0, -1}, {0, 1000}};
        for (int[] n : none) {
            Check.due("weights of none", x.weights(n[0], n[1]), -1);
        }
        AwardLine y = new AwardLine();
        y.land(2, 2);
        y.count(0, 0, 0, 35);
        y.count(0, 1, 5, 0);
        y.count(0, 2, 0, 1);
        y.count(0, 3, 0, 1);
        y.village(0, 0, 0, false);
        // 0: -35 a + 10 b, with 1 beside on its side and 2 not; 1: 5 a
        Check.due("a 1, b 4", y.weights(3, 0), 140);
        Check.due("as known on another day", y.weights(3, 999), 140);
        promise21Edges();
    }
}
