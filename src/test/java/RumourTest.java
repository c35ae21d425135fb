/** Promises 22, 23 and 24: who can know a draft, whether acts are explained, and through whom. */
public final class RumourTest {
    private static final int SIGHT = 0;
    private static final int MEETING = 1;
    private static final int ACT = 2;

    public static void main(String[] args) {
        promise22Knows();
        promise22RowsOfOneDay();
        promise22AsKnown();
        promise22WrongOnes();
        promise23Explained();
        promise24Through();
        promise24OverDrafts();
        Check.end();
    }

    private static AwardLine onDay(int day, int drafts) {
        AwardLine x = new AwardLine();
        for (int i = 0; i < drafts; i++) {
            x.draft(i);
        }
        x.days(day);
        return x;
    }

    private static void promise22Knows() {
        AwardLine x = onDay(50, 2);
        Check.due("nobody", x.knows(0, 0, 50), -1);
        x.note(SIGHT, 0, 0, 20);
        x.note(SIGHT, 0, 0, 10);
        Check.due("the first sight", x.knows(0, 0, 50), 10);
        Check.due("another draft", x.knows(0, 1, 50), -1);
        x.note(MEETING, 0, 1, 9);
        Check.due("met too early", x.knows(1, 0, 50), -1);
        x.note(MEETING, 0, 1, 15);
        x.note(MEETING, 0, 1, 12);
        Check.due("met", x.knows(1, 0, 50), 12);
        x.note(MEETING, 2, 1, 11);
        Check.due("met before he knew", x.knows(2, 0, 50), -1);
        x.note(MEETING, 2, 1, 12);
        Check.due("met on that day", x.knows(2, 0, 50), 12);
        x.note(SIGHT, 0, 2, 11);
        Check.due("a sight before", x.knows(2, 0, 50), 11);
        Check.due("told backwards", x.knows(1, 0, 50), 11);
    }

    private static void promise22RowsOfOneDay() {
        AwardLine x = onDay(5, 1);
        for (int p = 6; p >= 0; p--) {
            x.note(MEETING, p % 2 == 0 ? p : p + 1, p % 2 == 0 ? p + 1 : p, 3);
        }
        x.note(SIGHT, 0, 0, 3);
        for (int p = 0; p < 8; p++) {
            Check.due("person " + p, x.knows(p, 0, 5), 3);
        }
        AwardLine y = onDay(5, 1);
        for (int p = 0; p < 7; p++) {
            y.note(MEETING, p, p + 1, 3);
        }
        y.note(SIGHT, 0, 7, 2);
        for (int p = 0; p < 8; p++) {
            Check.due("person " + p + " the other way", y.knows(p, 0, 5), p == 7 ? 2 : 3);
        }
    }

    private static void promise22AsKnown() {
        AwardLine x = onDay(10, 1);
        x.note(SIGHT, 0, 0, 4);
        x.days(10);
        x.note(MEETING, 0, 1, 4);
        x.days(10);
        x.strike(0);
        Check.due("told by 9", x.knows(0, 0, 9), -1);
        Check.due("told by 10", x.knows(0, 0, 10), 4);
        Check.due("the meeting isn't told", x.knows(1, 0, 19), -1);
        Check.due("the meeting is told", x.knows(1, 0, 20), 4);
        Check.due("struck", x.knows(1, 0, 30), -1);
        x.strike(2);
        Check.due("the strike is struck", x.knows(1, 0, 999), 4);
    }

    private static void promise22WrongOnes() {
        AwardLine x = onDay(5, 1);
        x.note(SIGHT, 0, 0, 0);
        Check.due("day 0", x.knows(0, 0, 5), 0);
        AwardLine last = onDay(999, 1);
        last.note(SIGHT, 0, 0, 999);
        last.note(MEETING, 0, 1, 999);
        Check.due("the last day", last.knows(1, 0, 999), 999);
        Check.due("not on the last day", last.knows(2, 0, 999), -1);
        last.note(SIGHT, 0, 2, 998);
        Check.due("the last day but one", last.knows(2, 0, 999), 998);
        Check.due("person -1", x.knows(-1, 0, 5), -1);
        Check.due("person 8", x.knows(8, 0, 5), -1);
        Check.due("draft -1", x.knows(0, -1, 5), -1);
        Check.due("draft 1", x.knows(0, 1, 5), -1);
        Check.due("day -1", x.knows(0, 0, -1), -1);
        Check.due("day 1000", x.knows(0, 0, 1000), -1);
    }

    private static void promise23Explained() {
        AwardLine x = onDay(20, 2);
        x.note(SIGHT, 0, 0, 10);
        x.note(MEETING, 0, 1, 12);
        int before = x.note(ACT, 0, 0, 9);
        int onTheDay = x.note(ACT, 0, 0, 10);
        int heardBefore = x.note(ACT, 0, 1, 11);
        int heard = x.note(ACT, 0, 1, 12);
        int other = x.note(ACT, 1, 1, 20);
        Check.due("before the sight", x.explained(before, 20), 0);
        Check.due("on the day of the sight", x.explained(onTheDay, 20), 2);
        Check.due("before he heard", x.explained(heardBefore, 20), 0);
        Check.due("when he heard", x.explained(heard, 20), 1);
        Check.due("another draft", x.explained(other, 20), 0);
        Check.due("a sight is no act", x.explained(0, 20), -1);
        Check.due("a meeting is no act", x.explained(1, 20), -1);
        Check.due("not told by then", x.explained(heard, 19), -1);
        x.days(1);
        int late = x.note(SIGHT, 0, 1, 13);
        Check.due("a sight behind it", x.explained(heard, 21), 1);
        int early = x.note(SIGHT, 0, 1, 12);
        Check.due("a sight by its day", x.explained(heard, 21), 2);
        Check.due("as known the day before", x.explained(heard, 20), 1);
        x.strike(early);
        Check.due("that sight is struck", x.explained(heard, 21), 1);
        int strike = x.strike(heard);
        Check.due("the act is struck", x.explained(heard, 21), -1);
        Check.due("a strike is no act", x.explained(strike, 21), -1);
        x.strike(strike);
        Check.due("the act stands again", x.explained(heard, 21), 1);
        Check.due("note -1", x.explained(-1, 21), -1);
        Check.due("no such note", x.explained(x.counted(2), 21), -1);
        Check.due("day -1", x.explained(heard, -1), -1);
        Check.due("day 1000", x.explained(heard, 1000), -1);
        Check.due("late", late, early - 1);
    }

    private static void promise24Through() {
        AwardLine x = onDay(20, 1);
        Check.due("nobody", x.through(20), 0);
        x.note(SIGHT, 0, 0, 1);
        x.note(MEETING, 0, 1, 2);
        x.note(MEETING, 1, 2, 3);
        Check.due("no act", x.through(20), 0);
        x.note(ACT, 0, 0, 5);
        Check.due("one who saw needs nobody", x.through(20), 0);
        x.note(ACT, 0, 2, 5);
        Check.due("through both", x.through(20), 3);
        x.note(MEETING, 0, 3, 4);
        x.note(MEETING, 3, 2, 5);
        Check.due("through the first alone", x.through(20), 1);
        x.note(ACT, 0, 2, 4);
        Check.due("another act had to come by 1", x.through(20), 3);
        x.note(ACT, 0, 5, 19);
        Check.due("what is not explained tells nothing", x.through(20), 3);
        x.days(1);
        x.note(SIGHT, 0, 1, 1);
        Check.due("one more sight", x.through(21), 2);
        Check.due("as known before", x.through(20), 3);
        Check.due("as known on 19", x.through(19), 0);
        Check.due("through(-1)", x.through(-1), -1);
        Check.due("through(1000)", x.through(1000), -1);
        Check.due("through(999)", x.through(999), 2);
    }

    private static void promise24OverDrafts() {
        AwardLine x = onDay(9, 12);
        x.note(SIGHT, 0, 0, 0);
        x.note(SIGHT, 11, 6, 0);
        x.note(MEETING, 0, 1, 1);
        x.note(MEETING, 6, 7, 1);
        x.note(ACT, 0, 1, 2);
        Check.due("of draft 0", x.through(9), 1);
        int act = x.note(ACT, 11, 7, 2);
        Check.due("of both", x.through(9), 65);
        AwardLine y = onDay(9, 1);
        y.note(ACT, 0, 4, 6);
        y.note(SIGHT, 0, 3, 6);
        y.note(MEETING, 4, 3, 6);
        Check.due("all on one day", y.through(9), 8);
        x.strike(act);
        Check.due("a struck act", x.through(9), 1);
    }
}
