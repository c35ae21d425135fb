/**
 * The edges that part 5 of the document's Terms names, sentence by sentence in its order: people who go when a
 * line is told, and guards. Each method quotes the words that it holds the class to.
 */
public final class EdgesFlightTest {
    public static void main(String[] args) {
        fearOf100GoUpwards();
        loseOf100AreLostUpwards();
        theyGoToTheNearest();
        ofLikeOnesTheLeastNumber();
        nobodyGoesIfThereIsNone();
        bothSidesGo();
        allAtOnce();
        theyAreThereOnTheNextDay();
        noWayRoundTheEndOfARow();
        theLongestWayOfTheMost();
        guardedIsWhereTheyGoFrom();
        daysOfFlight();
        guardsForNoneToEight();
        guardsOfTheWorstDraft();
        guardsLoseAsTheFlightDoes();
        guardsOfSeveralTheFewest();
        guardsThenTheLeastBitsOfCandidates();
        Check.end();
    }

    /** Nobody anywhere but in those told: village, ones, others. */
    private static AwardLine land(int w, int h, String terms, int... people) {
        AwardLine x = new AwardLine();
        x.land(w, h);
        for (int v = 0; v < w * h; v++) {
            int ones = 0;
            int others = 0;
            for (int i = 0; i < people.length; i += 3) {
                ones = people[i] == v ? people[i + 1] : ones;
                others = people[i] == v ? people[i + 2] : others;
            }
            x.count(0, v, ones, others);
        }
        Check.terms(x, terms);
        return x;
    }

    private static void goes(String why, AwardLine x, int line, int d, int guards, int... due) {
        for (int what = 0; what < 3; what++) {
            String call = "flight(" + line + ", " + d + ", " + guards + ", 0, " + what + "): " + why;
            Check.due(call, x.flight(line, d, guards, 0, what), due[what]);
        }
    }

    /** "fear of 100, upwards, go": of each number, nobody of none. */
    private static void fearOf100GoUpwards() {
        int[][] rows = {{0, 0, 0}, {0, 1, 0}, {0, 100, 0}, {1, 0, 0}, {1, 1, 1}, {1, 99, 1}, {1, 100, 1}, {2, 50, 1},
            {3, 50, 2}, {99, 1, 1}, {100, 1, 1}, {101, 1, 2}, {100, 99, 99}, {101, 99, 100}, {999, 0, 0}, {999, 1, 10},
            {999, 99, 990}, {999, 100, 999}};
        for (int[] row : rows) {
            AwardLine x = land(2, 2, "fear " + row[1] + ";lose 0;", 1, row[0], 0);
            String why = "of " + row[0] + " go " + row[1] + " of 100";
            goes(why, x, 1, 1, 0, 0, row[0] - row[2], Math.max(row[2], row[0] - row[2]));
        }
    }

    /** "lose of 100 of those who go from a VILLAGE, upwards, are LOST": of each village by itself. */
    private static void loseOf100AreLostUpwards() {
        int[][] rows = {{0, 100, 0}, {1, 0, 0}, {1, 1, 1}, {1, 100, 1}, {99, 1, 1}, {100, 1, 1}, {101, 1, 2},
            {3, 50, 2}, {100, 99, 99}, {999, 0, 0}, {999, 1, 10}, {999, 100, 999}};
        for (int[] row : rows) {
            AwardLine x = land(2, 2, "fear 100;lose " + row[1] + ";", 1, row[0], 0);
            String why = "of " + row[0] + " are lost " + row[1] + " of 100";
            goes(why, x, 1, 1, 0, row[2], 0, row[0] - row[2]);
        }
        AwardLine two = land(2, 2, "fear 100;lose 1;", 1, 50, 0, 2, 50, 0);
        goes("one of each fifty", two, 1, 1, 0, 2, 0, 98);
        AwardLine some = land(2, 2, "fear 1;lose 1;", 1, 101, 0);
        goes("one of the two who go", some, 1, 1, 0, 1, 99, 99);
    }

    /** "to the VILLAGE BESIDE that is nearest to a VILLAGE of their side (fewest steps BESIDE": 0 steps, too. */
    private static void theyGoToTheNearest() {
        // the ones of 4 go over 3, 2, 1 to 0
        AwardLine x = land(5, 2, "fear 100;lose 0;", 4, 10, 0);
        for (int d = 0; d <= 5; d++) {
            goes("day " + d, x, 1, d, 0, 0, d < 4 ? 10 : 0, 10);
        }
        // from 4 to 9, which is of their side, though 3 has the lesser number
        goes("beside is their side", x, 1 | 1 << 9, 1, 0, 0, 0, 10);
        // from 4 to 5, not to 1 or 3: 5 is beside 8
        AwardLine y = land(3, 3, "fear 100;lose 0;", 4, 10, 0, 5, 3, 0, 7, 4, 0);
        goes("5 has 4's ones on the first day", y, 1 << 8, 1, 0, 0, 10, 10);
        goes("all are in 8 on the second", y, 1 << 8, 2, 0, 0, 0, 17);
    }

    /** "of like ones the least number": above before left, left before right, right before below. */
    private static void ofLikeOnesTheLeastNumber() {
        int[] beside = {1, 3, 5, 7};
        for (int first = 0; first < 4; first++) {
            int line = 0;
            for (int i = first; i < 4; i++) {
                line |= 1 << beside[i];
            }
            // where they go is told by those who are there already
            AwardLine x = land(3, 3, "fear 100;lose 0;", 4, 10, 0, beside[first], 100, 0);
            goes("to " + beside[first], x, line, 1, 0, 0, 0, 110);
        }
        // 0 and 8 are as far from 4 over any village beside it: over 1
        AwardLine y = land(3, 3, "fear 100;lose 0;", 4, 10, 0, 1, 0, 100);
        goes("over 1", y, 1 | 1 << 8, 1, 0, 0, 10, 110);
    }

    /** "nobody goes if there is none of their side". */
    private static void nobodyGoesIfThereIsNone() {
        AwardLine x = land(2, 2, "fear 100;lose 100;", 0, 10, 20, 3, 5, 7);
        goes("all on side 1", x, 0, 20, 0, 0, 15, 30);
        goes("all on side 0", x, 15, 20, 0, 0, 27, 30);
        goes("one of side 0", x, 1, 20, 0, 25, 0, 10);
    }

    /** "of each side's people there that are on the wrong side": of both, at once, the right ones stay. */
    private static void bothSidesGo() {
        AwardLine x = land(2, 2, "fear 100;lose 0;", 0, 100, 7, 1, 3, 200);
        // line 1: the 7 others go to 1, the 3 ones to 0
        goes("both", x, 1, 1, 0, 0, 0, 207);
        AwardLine y = land(2, 2, "fear 100;lose 50;", 0, 100, 7, 1, 3, 200);
        goes("both lose", y, 1, 1, 0, 4 + 2, 0, 203);
        // four columns of side 0: the others of 1 go over 2 and 3 to 4
        AwardLine z = land(5, 2, "fear 100;lose 0;", 1, 0, 10);
        for (int d = 0; d <= 4; d++) {
            goes("the others, day " + d, z, 0b0111101111, d, 0, 0, d < 3 ? 10 : 0, 10);
        }
    }

    /** "all at once": who comes today doesn't go on today, and those from two villages come together. */
    private static void allAtOnce() {
        // 3 to 2, 2 to 1, 1 to 0
        AwardLine x = land(5, 2, "fear 100;lose 0;", 1, 10, 0, 2, 20, 0, 3, 40, 0);
        goes("each a step", x, 1, 1, 0, 0, 60, 40);
        goes("each two steps", x, 1, 2, 0, 0, 40, 40);
        goes("each three steps", x, 1, 3, 0, 0, 0, 70);
        AwardLine y = land(5, 2, "fear 50;lose 0;", 1, 10, 0, 2, 20, 0);
        // 5 of 1 go to 0, 10 of 2 to 1; then 8 of 15 and 5 of 10
        goes("half of each", y, 1, 1, 0, 0, 25, 15);
        goes("half of what is there then", y, 1, 2, 0, 0, 17, 13);
        // 2 and 4 go to 1, 6 to 3
        AwardLine z = land(3, 3, "fear 100;lose 0;", 4, 10, 0, 2, 20, 0, 6, 1, 0);
        goes("two come to 1", z, 1, 1, 0, 0, 31, 30);
        goes("all are there", z, 1, 2, 0, 0, 0, 31);
    }

    /** "they are there on the next DAY": and stay, if it is their side. */
    private static void theyAreThereOnTheNextDay() {
        AwardLine x = land(2, 2, "fear 50;lose 0;", 1, 100, 0);
        goes("no day goes by", x, 1, 0, 0, 0, 100, 100);
        goes("one does", x, 1, 1, 0, 0, 50, 50);
        goes("two do", x, 1, 2, 0, 0, 25, 75);
        // 100, 50, 25, 12, 6, 3, 1, 0
        goes("seven do", x, 1, 7, 0, 0, 0, 100);
        goes("twenty do", x, 1, 20, 0, 0, 0, 100);
    }

    /** BESIDE isn't round the end of a row: 2 of 3 by 3 goes to 1 or 5, not to 3. */
    private static void noWayRoundTheEndOfARow() {
        AwardLine x = land(3, 3, "fear 100;lose 0;", 2, 10, 0, 3, 50, 0);
        // to 3 it is three steps from 2, over 1 or 5
        goes("a step", x, 1 << 3, 1, 0, 0, 10, 50);
        goes("two steps", x, 1 << 3, 2, 0, 0, 10, 50);
        goes("three steps", x, 1 << 3, 3, 0, 0, 0, 60);
        AwardLine y = land(3, 3, "fear 100;lose 0;", 3, 10, 0, 2, 50, 0);
        goes("the other way, two steps", y, 1 << 2, 2, 0, 0, 10, 50);
        goes("the other way, three steps", y, 1 << 2, 3, 0, 0, 0, 60);
    }

    /** "2: the greatest number in one VILLAGE (both sides)": all people of the greatest land go to its corners. */
    private static void theLongestWayOfTheMost() {
        for (int corner : new int[] {0, 4, 20, 24}) {
            AwardLine x = new AwardLine();
            x.land(5, 5);
            for (int v = 0; v < 25; v++) {
                x.count(0, v, 999, 0);
            }
            Check.terms(x, "fear 100;lose 0;");
            goes("before", x, 1 << corner, 0, 0, 0, 24 * 999, 999);
            // one village is eight steps away
            goes("seven days", x, 1 << corner, 7, 0, 0, 999, 24 * 999);
            goes("eight days", x, 1 << corner, 8, 0, 0, 0, 25 * 999);
            goes("twenty days", x, 1 << corner, 20, 0, 0, 0, 25 * 999);
            Check.terms(x, "fear 100;lose 100;");
            goes("all are lost", x, 1 << corner, 20, 0, 24 * 999, 0, 999);
            Check.terms(x, "fear 0;lose 100;");
            goes("all stay", x, 1 << corner, 20, 0, 0, 24 * 999, 999);
        }
    }

    /** "unless it is GUARDED": the village that they go from, at a CANDIDATE; others are not looked at. */
    private static void guardedIsWhereTheyGoFrom() {
        AwardLine x = land(5, 2, "fear 100;lose 10;", 2, 100, 0);
        x.candidate(2);
        x.candidate(0);
        goes("no guards", x, 1, 2, 0, 10 + 9, 0, 81);
        goes("at 2, where they go from first", x, 1, 2, 1, 10, 0, 90);
        goes("at 0, where they go to", x, 1, 2, 2, 19, 0, 81);
        goes("at both", x, 1, 2, 3, 10, 0, 90);
        for (int beyond : new int[] {4, 1 << 8, 1 << 25, 1 << 30, Integer.MIN_VALUE, -4}) {
            goes("at no candidate", x, 1, 2, beyond, 19, 0, 81);
            goes("at 2 and no candidate", x, 1, 2, beyond | 1, 10, 0, 90);
        }
        x.candidate(1);
        goes("at 2 and 1", x, 1, 2, 5, 0, 0, 100);
        goes("all bits", x, 1, 2, -1, 0, 0, 100);
    }

    /** "D DAYS (0 .. 20)" of a flight, "D DAYS (1 .. 20)" of guards. */
    private static void daysOfFlight() {
        AwardLine x = land(2, 2, "fear 1;lose 100;", 1, 999, 0);
        x.draft(1);
        int lost = 0;
        for (int d = 0; d <= 20; d++) {
            Check.due("lost in " + d, x.flight(1, d, 0, 0, 0), lost);
            Check.due("still there in " + d, x.flight(1, d, 0, 0, 1), 999 - lost);
            Check.due("guards in " + d, x.guards(0, 1, d, 0, 1), d == 0 ? -1 : lost);
            lost += (999 - lost + 99) / 100;
        }
        for (int no : new int[] {-1, 21, 22, Integer.MIN_VALUE, Integer.MAX_VALUE}) {
            Check.due("flight in " + no, x.flight(1, no, 0, 0, 0), -1);
            Check.due("guards in " + no, x.guards(0, 1, no, 0, 1), -1);
        }
    }

    /** Three by three, people in all but the middle, who go there; eight candidates, from 8 down. */
    private static AwardLine eight(String terms) {
        AwardLine x = land(3, 3, terms, 0, 10, 0, 1, 20, 0, 2, 30, 0, 3, 40, 0, 5, 60, 0, 6, 70, 0, 7, 80, 0, 8, 90, 0);
        for (int v = 8; v >= 0; v--) {
            Check.due("candidate " + v, v == 4 || x.candidate(v) >= 0, true);
        }
        Check.due("a ninth", x.candidate(4), -1);
        return x;
    }

    /** "GUARDS for m of the CANDIDATES (VILLAGES, at most 8)": none, each number, all of them. */
    private static void guardsForNoneToEight() {
        AwardLine x = eight("fear 100;lose 10;");
        x.draft(1 << 4);
        int[] lost = {40, 31, 23, 16, 10, 6, 3, 1, 0};
        for (int m = 0; m <= 8; m++) {
            // candidate 0 is village 8, with most people, and so on down; each saves a tenth of them
            Check.due("guards for " + m, x.guards(m, 1, 1, 0, 0), (1 << m) - 1);
            Check.due("lost with " + m, x.guards(m, 1, 1, 0, 1), lost[m]);
        }
        for (int no : new int[] {-1, 9, 10, 15, 16, 32, Integer.MIN_VALUE, Integer.MAX_VALUE}) {
            Check.due("guards for " + no, x.guards(no, 1, 1, 0, 0), -1);
            Check.due("lost with " + no, x.guards(no, 1, 1, 0, 1), -1);
        }
        AwardLine y = land(2, 2, "fear 100;lose 10;", 1, 100, 0);
        y.draft(1);
        Check.due("without candidates", y.guards(8, 1, 1, 0, 0), 0);
        Check.due("without candidates, lost", y.guards(8, 1, 1, 0, 1), 10);
    }

    /** "the greatest number LOST .. over told DRAFTS (bits) is least": of twelve, of those told alone. */
    private static void guardsOfTheWorstDraft() {
        AwardLine x = land(2, 2, "fear 100;lose 10;", 1, 100, 0, 2, 200, 0);
        x.candidate(1);
        x.candidate(2);
        for (int i = 0; i < 12; i++) {
            x.draft(i == 11 ? 2 : i == 0 ? 4 : 15);
        }
        // the first has 1's ones go, to 0 and then to 2, the last 2's, the others nobody
        int[][] rows = {{1, 1, 0}, {1 << 11, 2, 0}, {1 << 11 | 1, 2, 10}, {4095, 2, 10}, {2, 0, 0},
            {4094 - 2048, 0, 0}};
        for (int[] row : rows) {
            Check.due("guards over " + row[0], x.guards(1, row[0], 1, 0, 0), row[1]);
            Check.due("lost over " + row[0], x.guards(1, row[0], 1, 0, 1), row[2]);
        }
        Check.due("both", x.guards(2, 4095, 1, 0, 0), 3);
        for (int no : new int[] {0, -1, 4096, 4097, 1 << 30, Integer.MIN_VALUE, Integer.MAX_VALUE}) {
            Check.due("guards over " + no, x.guards(1, no, 1, 0, 0), -1);
            Check.due("lost over " + no, x.guards(1, no, 1, 0, 1), -1);
        }
    }

    /** "the greatest number LOST in D DAYS": just what a flight by that draft with those guards loses. */
    private static void guardsLoseAsTheFlightDoes() {
        AwardLine x = land(5, 2, "fear 60;lose 20;", 4, 300, 9, 9, 200, 0, 2, 50, 70, 0, 0, 500);
        x.candidate(4);
        x.candidate(3);
        x.candidate(1);
        int[] lines = {1, 0b1000010000, 0b0111101111};
        for (int i = 0; i < 3; i++) {
            x.draft(lines[i]);
            for (int d = 1; d <= 20; d += 3) {
                Check.due("no guards in " + d, x.guards(0, 1 << i, d, 0, 1), x.flight(lines[i], d, 0, 0, 0));
                int placed = x.guards(2, 1 << i, d, 0, 0);
                Check.due("guards in " + d, x.guards(2, 1 << i, d, 0, 1), x.flight(lines[i], d, placed, 0, 0));
                for (int other : new int[] {0, 1, 2, 3, 4, 5, 6}) {
                    boolean less = x.flight(lines[i], d, other, 0, 0) < x.flight(lines[i], d, placed, 0, 0);
                    Check.due("others lose fewer in " + d, less, false);
                }
            }
        }
    }

    /** "of several the fewest": none where none is lost, or where no guard helps. */
    private static void guardsOfSeveralTheFewest() {
        AwardLine none = eight("fear 100;lose 0;");
        none.draft(1 << 4);
        Check.due("nobody is lost", none.guards(8, 1, 20, 0, 0), 0);
        AwardLine x = land(2, 2, "fear 100;lose 10;", 1, 100, 0);
        x.candidate(0);
        x.candidate(2);
        x.draft(1);
        Check.due("no guard helps", x.guards(2, 1, 1, 0, 0), 0);
        Check.due("no guard helps: lost", x.guards(2, 1, 1, 0, 1), 10);
        x.candidate(1);
        Check.due("the third alone does", x.guards(3, 1, 1, 0, 0), 4);
        Check.due("for one, too", x.guards(1, 1, 1, 0, 0), 4);
        // of two drafts each loses 10; with one guard the worst is 10 still
        AwardLine y = land(2, 2, "fear 100;lose 10;", 1, 100, 0, 2, 100, 0);
        y.candidate(1);
        y.candidate(2);
        y.draft(4);
        y.draft(2);
        Check.due("one of two doesn't help", y.guards(1, 3, 1, 0, 0), 0);
        Check.due("both do", y.guards(2, 3, 1, 0, 0), 3);
    }

    /** "then the least bits of CANDIDATES": by the candidates' numbers, not by those of the villages. */
    private static void guardsThenTheLeastBitsOfCandidates() {
        AwardLine x = land(2, 2, "fear 100;lose 10;", 1, 100, 0, 2, 100, 0);
        x.candidate(3);
        x.candidate(2);
        x.candidate(1);
        x.draft(1);
        Check.due("1 or 2: 2 was told before", x.guards(1, 1, 1, 0, 0), 2);
        Check.due("10 are lost", x.guards(1, 1, 1, 0, 1), 10);
        Check.due("both", x.guards(2, 1, 1, 0, 0), 6);
        AwardLine like = land(3, 3, "fear 100;lose 10;", 1, 10, 0, 3, 10, 0, 5, 10, 0, 7, 10, 0);
        for (int v : new int[] {0, 7, 2, 5, 6, 3, 8, 1}) {
            like.candidate(v);
        }
        like.draft(1 << 4);
        int[] due = {0, 2, 10, 42, 170, 170, 170, 170, 170};
        for (int m = 0; m <= 8; m++) {
            Check.due("of four like ones " + m, like.guards(m, 1, 1, 0, 0), due[m]);
        }
    }
}
