/**
 * The edges that part 4 of the document's Terms names, sentence by sentence in its order: who can know a draft,
 * which acts are explained, and through whom. Each method quotes the words that it holds the class to.
 */
public final class EdgesRumourTest {
    private static final int SIGHT = 0;
    private static final int MEETING = 1;
    private static final int ACT = 2;

    public static void main(String[] args) {
        personsAreOf0To7();
        aSightIsNotBeforeTheDraft();
        aMeetingIsByToday();
        anActMayBeBeforeTheDraft();
        theFirstSightCounts();
        knownOnTheLastDay();
        aMeetingByThen();
        ofOneDayByRowsOfMeetings();
        sureByItsDay();
        mayBeByItsDay();
        onlyActsAreExplained();
        throughNobody();
        throughTheWholeRow();
        throughOneWayOfTwo();
        throughSureOrMayBeAlone();
        silenceLeavesHimWhatHeKnows();
        asKnownOnADay();
        Check.end();
    }

    private static AwardLine onDay(int day) {
        AwardLine x = new AwardLine();
        x.draft(1);
        x.draft(2);
        x.days(day);
        return x;
    }

    /** "PERSONS 0 .. 7". */
    private static void personsAreOf0To7() {
        AwardLine x = onDay(1);
        for (int person = 0; person <= 7; person++) {
            Check.due("person " + person + " sees", x.note(SIGHT, 0, person, 0) >= 0, true);
            Check.due("person " + person + " acts", x.note(ACT, 0, person, 0) >= 0, true);
            Check.due("person " + person + " meets", x.note(MEETING, person, 7 - person, 0) >= 0, true);
            Check.due("person " + person + " knows", x.knows(person, 0, 1), 0);
        }
        int notes = x.counted(2);
        for (int no : new int[] {-1, 8, 9, 32, Integer.MIN_VALUE, Integer.MAX_VALUE}) {
            Check.due("person " + no + " sees", x.note(SIGHT, 0, no, 0), -1);
            Check.due("person " + no + " acts", x.note(ACT, 0, no, 0), -1);
            Check.due("person " + no + " meets", x.note(MEETING, no, 0, 0), -1);
            Check.due("person " + no + " is met", x.note(MEETING, 0, no, 0), -1);
            Check.due("person " + no + " knows", x.knows(no, 0, 1), -1);
        }
        Check.due("no note of those", x.counted(2), notes);
    }

    /** "a SIGHT .. on a DAY (that on which it was drawn, or behind, TODAY at most)": of the draft that it is of. */
    private static void aSightIsNotBeforeTheDraft() {
        AwardLine x = new AwardLine();
        x.days(3);
        x.draft(1);
        x.days(4);
        x.draft(2);
        Check.due("today is the day of the second", x.note(SIGHT, 1, 0, 7), 0);
        x.days(2);
        Check.due("a day before the first", x.note(SIGHT, 0, 0, 2), -1);
        Check.due("the day of the first", x.note(SIGHT, 0, 0, 3), 1);
        Check.due("a day before the second", x.note(SIGHT, 1, 0, 6), -1);
        Check.due("the day of the second", x.note(SIGHT, 1, 0, 7), 2);
        Check.due("between", x.note(SIGHT, 1, 0, 8), 3);
        Check.due("today", x.note(SIGHT, 1, 0, 9), 4);
        Check.due("tomorrow", x.note(SIGHT, 1, 0, 10), -1);
        Check.due("no third draft", x.note(SIGHT, 2, 0, 9), -1);
    }

    /** "a MEETING of two PERSONS on a DAY (TODAY at most)": before any draft, too; two are unlike. */
    private static void aMeetingIsByToday() {
        AwardLine x = new AwardLine();
        x.days(4);
        Check.due("day 0", x.note(MEETING, 0, 7, 0), 0);
        Check.due("today", x.note(MEETING, 7, 0, 4), 1);
        Check.due("tomorrow", x.note(MEETING, 0, 7, 5), -1);
        Check.due("day -1", x.note(MEETING, 0, 7, -1), -1);
        for (int person = 0; person <= 7; person++) {
            Check.due("with himself", x.note(MEETING, person, person, 4), -1);
        }
    }

    /** "an ACT of a PERSON on a DAY as one who knew a DRAFT" and "An ACT may be of any DAY by TODAY". */
    private static void anActMayBeBeforeTheDraft() {
        AwardLine x = new AwardLine();
        x.days(3);
        x.draft(1);
        x.days(4);
        x.note(SIGHT, 0, 0, 3);
        int early = x.note(ACT, 0, 0, 0);
        int before = x.note(ACT, 0, 0, 2);
        int on = x.note(ACT, 0, 0, 3);
        int today = x.note(ACT, 0, 0, 7);
        Check.due("four acts", today - early, 3);
        Check.due("tomorrow", x.note(ACT, 0, 0, 8), -1);
        Check.due("on day -1", x.note(ACT, 0, 0, -1), -1);
        Check.due("by no draft", x.note(ACT, 1, 0, 7), -1);
        Check.due("day 0", x.explained(early, 7), 0);
        Check.due("before it was drawn", x.explained(before, 7), 0);
        Check.due("when it was drawn", x.explained(on, 7), 2);
    }

    /** "a PERSON can KNOW it from the DAY of the first SIGHT of it": the first by days, whichever was told first. */
    private static void theFirstSightCounts() {
        AwardLine x = onDay(9);
        Check.due("never", x.knows(7, 0, 9), -1);
        x.note(SIGHT, 0, 7, 9);
        Check.due("today", x.knows(7, 0, 9), 9);
        x.note(SIGHT, 0, 7, 5);
        Check.due("an earlier one, told later", x.knows(7, 0, 9), 5);
        x.note(SIGHT, 0, 7, 6);
        Check.due("a later one", x.knows(7, 0, 9), 5);
        Check.due("of another draft", x.knows(7, 1, 9), -1);
        Check.due("another person", x.knows(6, 0, 9), -1);
        x.note(SIGHT, 0, 7, 0);
        Check.due("on day 0", x.knows(7, 0, 9), 0);
    }

    /** "DAYS 0 .. 999": what is seen or heard on the last one is known, what isn't is not. */
    private static void knownOnTheLastDay() {
        AwardLine x = onDay(999);
        int act = x.note(ACT, 0, 2, 999);
        x.note(SIGHT, 0, 0, 999);
        Check.due("seen on 999", x.knows(0, 0, 999), 999);
        Check.due("never heard", x.knows(1, 0, 999), -1);
        Check.due("not explained on 999", x.explained(act, 999), 0);
        x.note(MEETING, 1, 2, 999);
        x.note(MEETING, 0, 1, 999);
        Check.due("heard on 999", x.knows(2, 0, 999), 999);
        Check.due("explained on 999", x.explained(act, 999), 1);
        Check.due("through both, the act being the first note", x.through(999), 3);
        Check.due("as known on 998", x.knows(0, 0, 998), -1);
    }

    /** "or from the DAY of a MEETING with one who can KNOW it by then": on that day, not the day before. */
    private static void aMeetingByThen() {
        for (int day = 3; day <= 5; day++) {
            for (int turn = 0; turn < 2; turn++) {
                AwardLine x = onDay(9);
                x.note(SIGHT, 0, 0, 4);
                x.note(MEETING, turn == 0 ? 0 : 1, turn == 0 ? 1 : 0, day);
                Check.due("met on " + day, x.knows(1, 0, 9), day < 4 ? -1 : day);
                Check.due("the first one still", x.knows(0, 0, 9), 4);
                x.note(SIGHT, 0, 1, 3);
                Check.due("he saw it before", x.knows(1, 0, 9), 3);
                Check.due("and told it", x.knows(0, 0, 9), day == 3 ? 3 : 4);
            }
        }
    }

    /** "of one DAY by rows of MEETINGS, too, in whatever order": a row of all eight, told from both its ends. */
    private static void ofOneDayByRowsOfMeetings() {
        for (int turn = 0; turn < 2; turn++) {
            AwardLine x = onDay(9);
            for (int i = 0; i < 7; i++) {
                int p = turn == 0 ? i : 6 - i;
                x.note(MEETING, p, p + 1, 4);
            }
            x.note(SIGHT, 0, turn == 0 ? 7 : 0, 4);
            x.note(SIGHT, 1, turn == 0 ? 0 : 7, 5);
            for (int p = 0; p < 8; p++) {
                Check.due("person " + p + " of that day", x.knows(p, 0, 9), 4);
                boolean sees = p == (turn == 0 ? 0 : 7);
                Check.due("person " + p + " of the day before", x.knows(p, 1, 9), sees ? 5 : -1);
            }
        }
    }

    /** "An ACT is SURE if its PERSON has a SIGHT of the DRAFT by its DAY". */
    private static void sureByItsDay() {
        for (int day = 3; day <= 5; day++) {
            AwardLine x = onDay(9);
            int act = x.note(ACT, 0, 2, 4);
            x.note(SIGHT, 0, 2, day);
            Check.due("a sight on " + day, x.explained(act, 9), day <= 4 ? 2 : 0);
            x.note(SIGHT, 0, 3, 0);
            x.note(MEETING, 2, 3, 0);
            Check.due("and he heard it", x.explained(act, 9), day <= 4 ? 2 : 1);
        }
        AwardLine x = onDay(9);
        int act = x.note(ACT, 0, 2, 4);
        x.note(SIGHT, 1, 2, 4);
        x.note(SIGHT, 0, 1, 4);
        Check.due("a sight of another draft, and by another", x.explained(act, 9), 0);
    }

    /** "MAY BE if it can KNOW it by then, else it is not EXPLAINED". */
    private static void mayBeByItsDay() {
        for (int day = 3; day <= 5; day++) {
            AwardLine x = onDay(9);
            int act = x.note(ACT, 0, 2, 4);
            x.note(SIGHT, 0, 1, 0);
            Check.due("he never met him", x.explained(act, 9), 0);
            x.note(MEETING, 1, 2, day);
            Check.due("met on " + day, x.explained(act, 9), day <= 4 ? 1 : 0);
        }
    }

    /** An ACT and no other NOTE can be explained. */
    private static void onlyActsAreExplained() {
        AwardLine x = onDay(9);
        int count = x.count(0, 0, 1, 1);
        int sight = x.note(SIGHT, 0, 0, 4);
        int meeting = x.note(MEETING, 0, 1, 4);
        int act = x.note(ACT, 0, 1, 4);
        int strike = x.strike(count);
        Check.due("a count", x.explained(count, 9), -1);
        Check.due("a sight", x.explained(sight, 9), -1);
        Check.due("a meeting", x.explained(meeting, 9), -1);
        Check.due("an act", x.explained(act, 9), 1);
        Check.due("a strike", x.explained(strike, 9), -1);
        Check.due("no note yet", x.explained(strike + 1, 9), -1);
        Check.due("an act is no count", x.span(1, 0, 9, 1), 999);
        Check.due("a count is no act", x.through(9), 1);
    }

    /** THROUGH whom, without an act, or with one of a person who saw it himself. */
    private static void throughNobody() {
        AwardLine x = new AwardLine();
        Check.due("nothing is told", x.through(0), 0);
        x = onDay(9);
        x.note(SIGHT, 0, 0, 1);
        x.note(MEETING, 0, 1, 2);
        Check.due("no act", x.through(9), 0);
        x.note(ACT, 0, 0, 1);
        Check.due("a sure act needs nobody", x.through(9), 0);
        x.note(ACT, 0, 1, 1);
        Check.due("nor does one that isn't explained", x.through(9), 0);
        x.note(ACT, 0, 1, 2);
        Check.due("one that may be does", x.through(9), 1);
    }

    /** "those PERSONS, without whose telling anybody": all of a row but the last one, of each bit. */
    private static void throughTheWholeRow() {
        for (int last = 1; last <= 7; last++) {
            AwardLine x = onDay(9);
            x.note(SIGHT, 0, 0, 1);
            for (int p = 0; p < 7; p++) {
                x.note(MEETING, p, p + 1, 3);
            }
            x.note(ACT, 0, last, 3);
            Check.due("through all before " + last, x.through(9), (1 << last) - 1);
        }
        AwardLine y = onDay(9);
        y.note(SIGHT, 0, 7, 1);
        y.note(MEETING, 0, 7, 1);
        y.note(ACT, 0, 0, 1);
        Check.due("through 7", y.through(9), 128);
    }

    /** Of two ways neither is needed, unless it comes too late; "some ACT" is one of them. */
    private static void throughOneWayOfTwo() {
        AwardLine x = onDay(9);
        x.note(SIGHT, 0, 0, 1);
        x.note(MEETING, 0, 1, 1);
        x.note(MEETING, 0, 2, 1);
        x.note(MEETING, 1, 3, 4);
        x.note(MEETING, 2, 3, 5);
        x.note(ACT, 0, 3, 5);
        Check.due("either way", x.through(9), 0b0001);
        int early = x.note(ACT, 0, 3, 4);
        Check.due("one way comes too late", x.through(9), 0b0011);
        x.strike(early);
        Check.due("that act is struck", x.through(9), 0b0001);
        x.note(SIGHT, 0, 1, 4);
        Check.due("one more saw it", x.through(9), 0);
    }

    /** "some ACT that is SURE or MAY BE isn't EXPLAINED any more": of each draft by itself. */
    private static void throughSureOrMayBeAlone() {
        AwardLine x = onDay(9);
        x.note(SIGHT, 0, 0, 1);
        x.note(SIGHT, 1, 5, 1);
        x.note(MEETING, 0, 1, 2);
        x.note(MEETING, 5, 1, 2);
        Check.due("no act", x.through(9), 0);
        x.note(ACT, 1, 1, 2);
        Check.due("of the second draft", x.through(9), 1 << 5);
        x.note(ACT, 0, 1, 2);
        Check.due("of both", x.through(9), 1 << 5 | 1);
        x.note(ACT, 0, 6, 9);
        Check.due("an act that nothing explains", x.through(9), 1 << 5 | 1);
    }

    /** "(what he saw or heard goes no farther)": he himself may act on it. */
    private static void silenceLeavesHimWhatHeKnows() {
        AwardLine x = onDay(9);
        x.note(SIGHT, 0, 0, 1);
        x.note(MEETING, 0, 1, 2);
        x.note(ACT, 0, 1, 2);
        Check.due("he who heard it", x.through(9), 1);
        x.note(ACT, 0, 0, 1);
        Check.due("he who saw it", x.through(9), 1);
        x.note(MEETING, 1, 0, 3);
        Check.due("he who heard what he had seen", x.through(9), 1);
    }

    /** "As KNOWN on k": a note told on k counts on k, and not before; one struck on k doesn't any more. */
    private static void asKnownOnADay() {
        AwardLine x = onDay(5);
        x.note(SIGHT, 0, 0, 0);
        int act = x.note(ACT, 0, 1, 5);
        x.days(1);
        int meeting = x.note(MEETING, 0, 1, 0);
        x.days(1);
        x.strike(meeting);
        int[] knows = {-1, 0, -1};
        int[] explained = {0, 1, 0};
        int[] through = {0, 1, 0};
        for (int day = 5; day <= 7; day++) {
            Check.due("knows as known on " + day, x.knows(1, 0, day), knows[day - 5]);
            Check.due("explained as known on " + day, x.explained(act, day), explained[day - 5]);
            Check.due("through as known on " + day, x.through(day), through[day - 5]);
        }
        Check.due("the act isn't known on 4", x.explained(act, 4), -1);
        Check.due("nobody knows it on 4", x.knows(0, 0, 4), -1);
    }
}
