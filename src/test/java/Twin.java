import java.util.ArrayList;
import java.util.List;
import java.util.function.Supplier;
import java.util.function.ToLongFunction;

/** Two objects that must go on alike, as one that was refused a call and its twin, who was never asked. */
final class Twin {
    private static final int BLANKS = 0x20202020;
    private static final int LATE = 999;

    private Twin() {
    }

    static void refused(String call, Supplier<AwardLine> made, ToLongFunction<AwardLine> ask, long answer) {
        AwardLine asked = made.get();
        AwardLine left = made.get();
        Check.due(call, ask.applyAsLong(asked), answer);
        alike(call + " changes nothing", asked, left);
    }

    static void alike(String why, AwardLine one, AwardLine other) {
        Check.due(why, seen(one).equals(seen(other)), true);
    }

    static void none(String call, Supplier<AwardLine> made, ToLongFunction<AwardLine> ask) {
        refused(call, made, ask, AwardLine.NONE);
    }

    /**
     * All that can be seen of an object, and how it takes one more of each: some 300 calls, so that one that was
     * filled before stays under 512.
     */
    private static List<Long> seen(AwardLine x) {
        List<Long> row = new ArrayList<>();
        for (int what = 0; what < 9; what++) {
            row.add((long) x.counted(what));
        }
        row.add((long) x.fault(0));
        row.add((long) x.fault(1));
        seenOfVillages(x, row);
        seenOfLines(x, row);
        seenOfPersons(x, row);
        oneMoreOfEach(x, row);
        return row;
    }

    private static void seenOfVillages(AwardLine x, List<Long> row) {
        int villages = x.counted(1);
        for (int v = 0; v < villages; v++) {
            for (int side = 0; side < 2; side++) {
                row.add((long) x.span(v, side, LATE, 0));
                row.add((long) x.span(v, side, LATE, 1));
            }
        }
        row.add((long) x.given(LATE));
        for (int unit = 0; unit < 3; unit++) {
            row.add((long) x.turned(unit, LATE));
        }
    }

    private static void seenOfLines(AwardLine x, List<Long> row) {
        for (int line = 1; line < 11; line += 4) {
            for (int what = 0; what < 7; what++) {
                row.add((long) x.does(line, LATE, what));
            }
            row.add((long) x.weights(line, LATE));
            row.add((long) x.flight(line, 3, 0b10101010, LATE, 0));
        }
        row.add((long) x.best(LATE, 0));
        row.add((long) x.best(LATE, 1));
        int drafts = x.counted(4);
        for (int draft = 0; draft < drafts; draft++) {
            row.add((long) Check.looked(x, draft, 0));
            row.add((long) Check.looked(x, draft, 1));
            row.add((long) x.guards(1, 1 << draft, 2, LATE, 0));
        }
    }

    private static void seenOfPersons(AwardLine x, List<Long> row) {
        for (int person = 0; person < 8; person++) {
            row.add((long) x.knows(person, 0, LATE));
            row.add((long) x.knows(person, 1, LATE));
        }
        int notes = x.counted(2);
        for (int note = 0; note < notes; note++) {
            row.add((long) x.explained(note, LATE));
        }
        row.add((long) x.through(LATE));
    }

    private static void oneMoreOfEach(AwardLine x, List<Long> row) {
        row.add((long) x.days(0));
        row.add((long) x.draft(1));
        row.add((long) x.candidate(0));
        row.add((long) x.canal(0));
        int canals = x.counted(3);
        for (int canal = 0; canal < canals; canal++) {
            row.add((long) x.drinks(canal, 1));
        }
        for (int hand = 0; hand < 4; hand++) {
            row.add((long) x.count(hand, hand, 200, 300));
            row.add((long) x.span(hand, 0, LATE, 0));
            row.add((long) x.span(hand, 1, LATE, 1));
        }
        row.add((long) x.feed(BLANKS, BLANKS, BLANKS, BLANKS, BLANKS));
        row.add((long) x.terms(20));
        row.add((long) x.fault(0));
        row.add((long) x.fault(1));
        row.add((long) x.counted(7));
    }
}
