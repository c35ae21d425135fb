/** Promises 26 and 27: people who go when a line is told, and where guards lose fewest. */
public final class FlightTest {
    public static void main(String[] args) {
        promise26OneDay();
        promise26ManyDays();
        promise26Ways();
        promise26NobodyGoes();
        promise26Guards();
        promise26WrongOnes();
        promise27Guards();
        promise27FewestThenLeastBits();
        promise27WorstDraft();
        promise27WrongOnes();
        Check.end();
    }

    /** Villages without anybody, but for those told: village, ones, others. */
    private static AwardLine land(int w, int h, int... people) {
        AwardLine x = new AwardLine();
        x.land(w, h);
        for (int v = 0; v < w * h; v++) {
            int ones = 0;
            int others = 0;
            for (int i = 0; i < people.length; i += 3) {
                if (people[i] == v) {
                    ones = people[i + 1];
                    others = people[i + 2];
                }
            }
            x.count(0, v, ones, others);
        }
        return x;
    }

    private static void goes(AwardLine x, int line, int d, int guards, int... want) {
        for (int what = 0; what < 3; what++) {
            String call = "flight(" + line + ", " + d + ", " + guards + ", 0, " + what + ")";
            Check.due(call, x.flight(line, d, guards, 0, what), want[what]);
        }
    }

    private static void promise26OneDay() {
        AwardLine x = land(2, 2, 0, 100, 101, 3, 55, 40);
        goes(x, 1, 0, 0, 0, 101 + 55, 201);
        // of 101 others in 0 go 11, 1 lost, to 1; of 55 ones in 3 go 6, 1 lost, to 1, as near to 0 as 2
        goes(x, 1, 1, 0, 2, 90 + 49 + 5, 190);
        Check.terms(x, "fear 100;lose 50;");
        // 101 go, 51 lost; 55 go, 28 lost
        goes(x, 1, 1, 0, 79, 27, 100);
        Check.terms(x, "fear 100;lose 0;");
        goes(x, 1, 1, 0, 0, 55, 101 + 55);
        Check.terms(x, "fear 0;lose 100;");
        goes(x, 1, 20, 0, 0, 156, 201);
        Check.terms(x, "fear 1;lose 1;");
        // 2 of 101, 1 of 55; 1 lost of each
        goes(x, 1, 1, 0, 2, 99 + 54, 199);
    }

    private static void promise26ManyDays() {
        AwardLine x = land(5, 2, 4, 100, 0);
        Check.terms(x, "fear 50;lose 10;");
        // the ones of 4 go to 3, 2, 1 and to 0, which is of their side
        goes(x, 1, 1, 0, 5, 50 + 45, 50);
        // 25 of 50 go, 3 lost; 23 of 45 go, 3 lost
        goes(x, 1, 2, 0, 5 + 6, 25 + 22 + 22 + 20, 44);
        goes(x, 31 << 5, 1, 0, 5, 50, 50);
        Check.terms(x, "fear 100;lose 100;");
        goes(x, 1, 1, 0, 100, 0, 0);
        Check.terms(x, "fear 100;lose 1;");
        goes(x, 1, 4, 0, 4, 0, 96);
        goes(x, 1, 3, 0, 3, 97, 97);
        goes(x, 1, 20, 0, 4, 0, 96);
    }

    private static void promise26Ways() {
        AwardLine x = land(3, 3, 4, 10, 0);
        Check.terms(x, "fear 100;lose 0;");
        // to 0 and 8 it is as far over 1, 3, 5 or 7: they go over 1, then to 0
        x.count(1, 1, 0, 0);
        goes(x, 0b100000001, 1, 0, 0, 10, 10);
        AwardLine y = land(3, 3, 4, 10, 0, 1, 7, 0, 3, 1, 0);
        Check.terms(y, "fear 100;lose 0;");
        // 1 and 3 go to 0; 4 goes to 1
        goes(y, 0b100000001, 1, 0, 0, 10, 10);
        // one of their side beside: 7, though 1 is nearer to 0
        goes(y, 0b010000001, 1, 0, 0, 0, 10);
        // 4 to 5, 5 to 8, and the one of 8 to 5, all at once
        AwardLine z = land(3, 3, 4, 10, 0, 5, 20, 0, 8, 0, 1);
        Check.terms(z, "fear 100;lose 0;");
        goes(z, 0b100000000, 1, 0, 0, 10, 20);
        goes(z, 0b100000000, 2, 0, 0, 0, 30);
        goes(z, 0b100000000, 3, 0, 0, 0, 30);
    }

    private static void promise26NobodyGoes() {
        AwardLine x = land(2, 2, 0, 100, 100, 3, 50, 50);
        Check.terms(x, "fear 100;lose 100;");
        goes(x, 0, 20, 0, 0, 150, 200);
        goes(x, 15, 20, 0, 0, 150, 200);
        goes(x, 1, 0, 0, 0, 150, 200);
    }

    private static void promise26Guards() {
        AwardLine x = land(2, 2, 1, 100, 0, 2, 200, 0);
        Check.terms(x, "fear 100;lose 50;");
        goes(x, 1, 1, 15, 150, 0, 150);
        x.candidate(2);
        x.candidate(1);
        goes(x, 1, 1, 0, 150, 0, 150);
        goes(x, 1, 1, 1, 50, 0, 250);
        goes(x, 1, 1, 2, 100, 0, 200);
        goes(x, 1, 1, 3, 0, 0, 300);
        goes(x, 1, 1, -1, 0, 0, 300);
        goes(x, 1, 1, 4 + 1, 50, 0, 250);
        goes(x, 1, 1, -4, 150, 0, 150);
        // it is where they go from that is guarded
        AwardLine y = land(5, 2, 2, 100, 0);
        Check.terms(y, "fear 100;lose 10;");
        y.candidate(0);
        y.candidate(1);
        y.candidate(2);
        goes(y, 1, 2, 1, 10 + 9, 0, 81);
        goes(y, 1, 2, 2, 10, 0, 90);
        goes(y, 1, 2, 4, 10, 0, 90);
    }

    private static void promise26WrongOnes() {
        AwardLine x = land(2, 2, 1, 100, 0);
        int[][] none = {{-1, 1, 0, 0, 0}, {16, 1, 0, 0, 0}, {1, -1, 0, 0, 0}, {1, 21, 0, 0, 0}, {1, 1, 0, -1, 0},
            {1, 1, 0, 1000, 0}, {1, 1, 0, 0, -1}, {1, 1, 0, 0, 3}};
        for (int[] n : none) {
            Check.due("a flight of none", x.flight(n[0], n[1], n[2], n[3], n[4]), -1);
        }
        x.days(3);
        x.count(1, 1, 0, 0);
        Check.due("as known on 3", x.flight(1, 20, 0, 3, 1), 0);
        Check.due("as known on 2", x.flight(1, 0, 0, 2, 1), 100);
    }

    private static void placed(AwardLine x, int m, int drafts, int d, int bits, int lost) {
        String call = "guards(" + m + ", " + drafts + ", " + d + ", 0, ";
        Check.due(call + "0)", x.guards(m, drafts, d, 0, 0), bits);
        Check.due(call + "1)", x.guards(m, drafts, d, 0, 1), lost);
    }

    private static void promise27Guards() {
        AwardLine x = land(2, 2, 1, 100, 0, 2, 200, 0, 3, 0, 999);
        Check.terms(x, "fear 100;lose 50;");
        x.draft(1);
        placed(x, 5, 1, 1, 0, 150);
        placed(x, 8, 1, 1, 0, 150);
        Check.due("for 9 of them", x.guards(9, 1, 1, 0, 0), -1);
        x.candidate(3);
        x.candidate(1);
        x.candidate(2);
        placed(x, 0, 1, 1, 0, 150);
        placed(x, 1, 1, 1, 4, 50);
        placed(x, 2, 1, 1, 6, 0);
        placed(x, 3, 1, 1, 6, 0);
        placed(x, 8, 1, 1, 6, 0);
        x.days(1);
        x.count(1, 2, 0, 0);
        Check.due("as known then", x.guards(1, 1, 1, 1, 0), 2);
        AwardLine y = land(2, 2, 0, 100, 0, 1, 60, 0);
        Check.terms(y, "fear 100;lose 50;");
        y.draft(8);
        y.candidate(0);
        y.candidate(1);
        // 0 to 1 to 3: 50 of 100 and 30 of 60, then 25 of 50
        placed(y, 0, 1, 2, 0, 105);
        placed(y, 1, 1, 2, 2, 50);
        Check.due("as known then", x.guards(1, 1, 1, 1, 1), 0);
    }

    private static void promise27FewestThenLeastBits() {
        AwardLine x = land(2, 2, 1, 100, 0, 2, 100, 0);
        Check.terms(x, "fear 100;lose 50;");
        x.draft(1);
        x.draft(0);
        x.draft(4);
        x.candidate(0);
        x.candidate(2);
        x.candidate(1);
        placed(x, 1, 1, 1, 2, 50);
        placed(x, 2, 1, 1, 6, 0);
        placed(x, 2, 2, 20, 0, 0);
        // of line 1 the guard of 1 or 2 saves 50; of line 4 that of 1 alone does
        placed(x, 1, 7, 1, 2, 50);
        // 1 to 0 to 2: either guard leaves 50 lost, the one of 0 has the least bit
        placed(x, 1, 4, 2, 1, 50);
    }

    private static void promise27WorstDraft() {
        AwardLine x = land(3, 2, 0, 100, 0, 2, 0, 80);
        Check.terms(x, "fear 100;lose 10;");
        x.draft(0b000010);
        x.draft(0b000101);
        x.candidate(0);
        x.candidate(2);
        // the first loses 10 from 0, the second 8 from 2
        placed(x, 1, 1, 1, 1, 0);
        placed(x, 1, 2, 1, 2, 0);
        placed(x, 1, 3, 1, 1, 8);
        placed(x, 2, 3, 1, 3, 0);
        placed(x, 0, 3, 1, 0, 10);
    }

    private static void promise27WrongOnes() {
        AwardLine x = land(2, 2, 1, 100, 0);
        Check.due("without drafts", x.guards(0, 1, 1, 0, 0), -1);
        x.draft(1);
        x.draft(2);
        x.candidate(1);
        Check.due("it can be", x.guards(1, 3, 20, 999, 1) >= 0, true);
        int[][] none = {{-1, 1, 1, 0, 0}, {1, 0, 1, 0, 0}, {1, 4, 1, 0, 0}, {1, 5, 1, 0, 0}, {1, -1, 1, 0, 0},
            {1, 1, 0, 0, 0}, {1, 1, 21, 0, 0}, {1, 1, -1, 0, 0}, {1, 1, 1, -1, 0}, {1, 1, 1, 1000, 0},
            {1, 1, 1, 0, -1}, {1, 1, 1, 0, 2}, {1, Integer.MIN_VALUE, 1, 0, 0},
            {9, 1, 1, 0, 0}, {9, 1, 1, 0, 1}, {15, 1, 1, 0, 0}, {Integer.MAX_VALUE, 1, 1, 0, 0}};
        for (int[] n : none) {
            Check.due("guards of none", x.guards(n[0], n[1], n[2], n[3], n[4]), -1);
        }
    }
}
