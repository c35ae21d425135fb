import java.util.function.Supplier;

/**
 * The edges that the document's promises name, from 1 to 28: calls that are refused, with what they leave as it
 * was, and calls that are just not. Each method quotes the words that it holds the class to.
 */
public final class EdgesCallsTest {
    private static final int BLANKS = 0x20202020;
    private static final int[] FAR = {Integer.MIN_VALUE, Integer.MIN_VALUE + 1, -1000, -2, 1 << 30,
        Integer.MAX_VALUE - 1, Integer.MAX_VALUE};

    public static void main(String[] args) {
        promise1NewObject();
        promise2Feed();
        promise2FourBytesOfEachTheHighestFirst();
        promise3TermsEmptyTheTape();
        promise3NotSoManyOrBelow0();
        promise3AFaultTakesNothing();
        promise4Fault();
        promise5Land();
        promise5NothingIsLeftOfALargerLand();
        promise6Days();
        promise7Village();
        promise8Errs();
        promise9Count();
        promise10Note();
        promise11Strike();
        promise12Span();
        promise13Canal();
        promise14Drinks();
        promise15Given();
        promise16Turned();
        promise17Draft();
        promise18Look();
        promise19Does();
        promise20Best();
        promise21Weights();
        promise22Knows();
        promise23Explained();
        promise24Through();
        promise25Candidate();
        promise26Flight();
        promise27Guards();
        promise28Counted();
        Check.end();
    }

    /** Something of everything, on day 9, and twenty blanks on the tape. */
    private static AwardLine some() {
        AwardLine x = new AwardLine();
        x.days(4);
        x.errs(1, 10);
        x.village(0, 1, 0, true);
        x.village(1, 1, 1, true);
        x.village(2, 2, -1, true);
        x.canal(0);
        x.drinks(0, 1);
        x.canal(8);
        x.drinks(1, 7);
        x.draft(7);
        x.days(5);
        x.draft(73);
        x.candidate(2);
        x.candidate(5);
        x.count(0, 0, 50, 20);
        x.count(1, 1, 10, 90);
        x.note(0, 0, 0, 5);
        x.note(1, 0, 1, 6);
        x.note(2, 0, 1, 7);
        x.count(2, 2, 9, 9);
        x.strike(5);
        Check.terms(x, "unit district;first ones>=others;weigh shrine 5;weigh rail 6;weigh water 7;fear 20;lose 30;");
        x.feed(BLANKS, BLANKS, BLANKS, BLANKS, BLANKS);
        return x;
    }

    /** As much of everything as there can be, on the last day. */
    private static AwardLine full() {
        AwardLine x = new AwardLine();
        for (int canal = 0; canal < 6; canal++) {
            x.canal(canal);
            for (int v = 1; v <= 5; v++) {
                x.drinks(canal, (canal + v) % 9);
            }
        }
        for (int i = 0; i < 12; i++) {
            x.draft(1 << i % 9);
        }
        for (int v = 0; v < 8; v++) {
            x.candidate(v);
        }
        x.days(999);
        for (int i = 0; i < 80; i += 4) {
            x.count(i / 4 % 4, i % 9, i, 2 * i);
            x.note(0, i % 12, i % 8, 3);
            x.note(1, i % 8, (i + 3) % 8, 4);
            x.note(2, i % 12, (i + 3) % 8, 5);
        }
        for (int i = 0; i < 20; i++) {
            x.feed(BLANKS, BLANKS, BLANKS, BLANKS, BLANKS);
        }
        return x;
    }

    private static AwardLine fresh() {
        return new AwardLine();
    }

    /** "TODAY 0, 3 by 3 VILLAGES, no NOTES, CANALS, TERMS, DRAFTS, CANDIDATES; an empty TAPE". */
    private static void promise1NewObject() {
        AwardLine x = new AwardLine();
        int[] due = {0, 9, 0, 0, 0, 0, 0, 10, 5};
        for (int what = 0; what < due.length; what++) {
            Check.due("counted(" + what + ")", x.counted(what), due[what]);
        }
        Check.due("no byte is on the tape", x.terms(1), -2);
        Check.due("no note to strike", x.strike(0), -1);
        Check.due("no canal to drink of", x.drinks(0, 1), -1);
        Check.due("no draft to look at", Check.looked(x, 0, 0), -101);
        Check.due("no draft to guard for", x.guards(0, 1, 1, 0, 0), -1);
        x.count(0, 0, 1, 0);
        Check.due("no terms: ones > others of each village", x.given(0), 1);
        Check.due("twenty bytes", x.feed(0, 0, 0, 0, 0), 20);
        AwardLine y = new AwardLine();
        Check.due("another object has none of them", y.counted(2) + y.terms(1), -2);
    }

    /** "how many it has; NONE, and none come, if it would have more than 400". */
    private static void promise2Feed() {
        AwardLine x = new AwardLine();
        for (int i = 1; i <= 20; i++) {
            Check.due("feed " + i, x.feed(BLANKS, BLANKS, BLANKS, BLANKS, i < 20 ? BLANKS : 0x2020203b), 20 * i);
        }
        Check.due("a twenty-first", x.feed(0, 0, 0, 0, 0), -1);
        Check.due("and again", x.feed(0, 0, 0, 0, 0), -1);
        Check.due("401 are not there", x.terms(401), -2);
        Check.due("all 400 are as they were", x.terms(400), -1);
        Check.due("the last byte's fault", x.fault(0), 1);
        Check.due("the last byte's place", x.fault(1), 399);
        Check.due("from the beginning", x.feed(0, 0, 0, 0, 0), 20);
        Twin.none("feed of a full tape", EdgesCallsTest::full, y -> y.feed(-1, -1, -1, -1, -1));
    }

    /** "Twenty bytes come behind the TAPE, four of each number, the highest first": of negative numbers, too. */
    private static void promise2FourBytesOfEachTheHighestFirst() {
        AwardLine x = new AwardLine();
        x.feed(0x66656172, 0x20202020, 0x20202020, 0x20202020, 0x20202033);
        Check.due("behind it", x.feed(0x373b2020, BLANKS, BLANKS, BLANKS, 0x80ff8081), 40);
        Check.due("both are one text", x.terms(36), 1);
        Check.due("fear 37", x.counted(7), 37);
        for (int place = 0; place < 20; place++) {
            int[] five = {BLANKS, BLANKS, BLANKS, BLANKS, BLANKS};
            // byte 255 for a blank
            five[place / 4] |= 0xff << 24 - place % 4 * 8;
            x.feed(five[0], five[1], five[2], five[3], five[4]);
            Check.due("byte 255", x.terms(20), -1);
            Check.due("its place", x.fault(1), place);
        }
    }

    /** "The TAPE's first n bytes (it is empty then) are the TERMS: how many LINES". */
    private static void promise3TermsEmptyTheTape() {
        AwardLine x = new AwardLine();
        Check.due("none of none", x.terms(0), 0);
        x.feed(0x66656172, 0x20353b6c, 0x6f736520, 0x363b2020, BLANKS);
        Check.due("the first seven", x.terms(7), 1);
        Check.due("the others are gone", x.terms(1), -2);
        Check.due("fear", x.counted(7), 5);
        Check.due("lose", x.counted(8), 5);
        x.feed(0x66656172, 0x20353b6c, 0x6f736520, 0x363b2020, BLANKS);
        Check.due("all twenty", x.terms(20), 2);
        Check.due("lose", x.counted(8), 6);
        x.feed(0x66656172, 0x20353b6c, 0x6f736520, 0x363b2020, BLANKS);
        Check.due("none of twenty", x.terms(0), 0);
        Check.due("fear as without a line", x.counted(7), 10);
        Check.due("lose as without a line", x.counted(8), 5);
        Check.due("the tape is empty", x.feed(0, 0, 0, 0, 0), 20);
        Check.due("a fault", x.terms(20), -1);
        Check.due("the tape is empty behind a fault, too", x.feed(0, 0, 0, 0, 0), 20);
    }

    /** "-2, and the TAPE stays: there are not so many, n is below 0". */
    private static void promise3NotSoManyOrBelow0() {
        AwardLine x = new AwardLine();
        Check.due("1 of none", x.terms(1), -2);
        x.feed(0x66656172, 0x20353b20, BLANKS, BLANKS, BLANKS);
        Check.due("21 of 20", x.terms(21), -2);
        Check.due("-1", x.terms(-1), -2);
        for (int far : FAR) {
            Check.due("terms(" + far + ")", x.terms(far), -2);
        }
        Check.due("the tape stays", x.feed(BLANKS, BLANKS, BLANKS, BLANKS, BLANKS), 40);
        Check.due("its bytes stay", x.terms(40), 1);
        Check.due("fear", x.counted(7), 5);
        for (int n : new int[] {21, -1, 401, Integer.MIN_VALUE, Integer.MAX_VALUE}) {
            Twin.refused("terms(" + n + ")", EdgesCallsTest::some, y -> y.terms(n), -2);
        }
        Twin.refused("terms(401) of a full tape", EdgesCallsTest::full, y -> y.terms(401), -2);
    }

    /** "NONE with a FAULT": none of the faulty text's lines are taken, those before its fault neither. */
    private static void promise3AFaultTakesNothing() {
        for (String fault : new String[] {"x", "fear 101;", "fear 2;", "lose", "first 10000;", "first (((((((((1"}) {
            AwardLine x = new AwardLine();
            Check.terms(x, "unit land;first 1+1;weigh shrine 3;fear 33;lose 44;");
            x.village(0, 0, 1, false);
            Check.due("a fault", Check.terms(x, "unit village;weigh shrine 9;fear 1;first 0;" + fault), -1);
            Check.due("given behind " + fault, x.given(0), 511);
            Check.due("harm behind " + fault, x.does(1, 0, 6) - x.does(1, 0, 0), 3);
            Check.due("knots behind " + fault, x.counted(6), 3);
            Check.due("fear behind " + fault, x.counted(7), 33);
            Check.due("lose behind " + fault, x.counted(8), 44);
        }
    }

    /** "Of the latest terms() that was not -2, what 0: its FAULT (0), 1: its place (NONE). NONE for another what". */
    private static void promise4Fault() {
        AwardLine x = new AwardLine();
        Check.due("without terms", x.fault(0), 0);
        Check.due("without terms: the place", x.fault(1), -1);
        Check.terms(x, "lose 101;");
        x.terms(1);
        x.terms(-1);
        Check.due("behind -2", x.fault(0), 2);
        Check.due("behind -2: the place", x.fault(1), 5);
        Check.due("what 2", x.fault(2), -1);
        Check.due("what -1", x.fault(-1), -1);
        for (int far : FAR) {
            Check.due("what " + far, x.fault(far), -1);
        }
        Check.due("fault at place 0", Check.terms(x, ";"), -1);
        Check.due("its fault", x.fault(0), 1);
        Check.due("its place", x.fault(1), 0);
        x.terms(0);
        Check.due("no fault", x.fault(0), 0);
        Check.due("no place", x.fault(1), -1);
    }

    /**
     * "VILLAGES as at first, no NOTES, CANALS, DRAFTS, CANDIDATES (TODAY, HANDS, TERMS stay)" and "false: no such
     * W, H".
     */
    private static void promise5Land() {
        for (int[] no : new int[][] {{1, 3}, {3, 1}, {6, 3}, {3, 6}, {0, 0}, {-1, -1}, {2, 9}, {9, 2}}) {
            Twin.refused("land(" + no[0] + ", " + no[1] + ")", EdgesCallsTest::some, y -> y.land(no[0], no[1]) ? 1 : 0,
                    0);
        }
        Twin.refused("land(1, 1)", EdgesCallsTest::full, y -> y.land(1, 1) ? 1 : 0, 0);
        AwardLine x = full();
        x.errs(3, 50);
        Check.due("the same W, H", x.land(3, 3), true);
        int[] due = {999, 9, 0, 0, 0, 0, 0, 10, 5};
        for (int what = 0; what < due.length; what++) {
            Check.due("counted(" + what + ")", x.counted(what), due[what]);
        }
        Check.due("no count is left", x.span(0, 0, 999, 1), 999);
        Check.due("nobody knows anything", x.knows(0, 0, 999), -1);
        Check.due("through nobody", x.through(999), 0);
        Check.due("a first canal", x.canal(0), 0);
        Check.due("a first one drinks", x.drinks(0, 1), 1);
        Check.due("a first draft", x.draft(0), 0);
        Check.due("nobody has seen it", x.knows(0, 0, 999), -1);
        Check.due("a first candidate", x.candidate(0), 0);
        Check.due("a first note", x.count(3, 0, 100, 0), 0);
        Check.due("the hand errs still", x.span(0, 0, 999, 1), 150);
        AwardLine y = some();
        y.land(5, 5);
        Check.due("terms stay", y.counted(7), 20);
        Check.due("shrines are as at first", y.does(0, 9, 5) + y.does(2, 9, 5), 0);
        Check.due("rails are as at first", y.does(2, 9, 4), 0);
        Check.due("the tape stays", y.terms(20), 0);
        Check.terms(y, "unit district;first villages = 25;");
        Check.due("districts are as at first", y.given(9), (1 << 25) - 1);
        Check.terms(y, "unit district;first villages <> 25;");
        Check.due("no other district has any", y.given(9), 0);
        Check.terms(y, "unit village;first heads or rails or shrines;");
        Check.due("nothing stands in a village", y.given(9), 0);
    }

    /** "Another LAND": of a larger one that was full of all nothing is seen in any other, not even its people. */
    private static void promise5NothingIsLeftOfALargerLand() {
        for (int w = 2; w <= 5; w++) {
            for (int h = 2; h <= 5; h++) {
                AwardLine used = new AwardLine();
                used.land(5, 5);
                for (int v = 0; v < 25; v++) {
                    used.count(0, v, 999, 998);
                    used.village(v, v % 6, v % 2, true);
                }
                used.canal(24);
                used.drinks(0, 23);
                used.draft((1 << 25) - 1);
                used.draft(1 << 24);
                used.candidate(24);
                used.flight(1 << 24, 3, 0, 0, 2);
                used.guards(1, 3, 2, 0, 0);
                used.weights(1 << 24, 0);
                used.land(w, h);
                AwardLine left = new AwardLine();
                left.land(w, h);
                Twin.alike("5 by 5, then " + w + " by " + h, used, left);
            }
        }
    }

    /** "So many DAYS go by (0 .. 999): TODAY; NONE, and nothing happens: no such number, beyond 999". */
    private static void promise6Days() {
        for (int n : new int[] {-1, 1000, 991, 999, Integer.MIN_VALUE, Integer.MAX_VALUE}) {
            Twin.none("days(" + n + ") on day 9", EdgesCallsTest::some, y -> y.days(n));
        }
        Twin.none("days(1) on the last day", EdgesCallsTest::full, y -> y.days(1));
        Twin.none("days(-1) on day 0", EdgesCallsTest::fresh, y -> y.days(-1));
        Check.due("days(0) on day 9", some().days(0), 9);
        Check.due("days(990) on day 9", some().days(990), 999);
        Check.due("days(0) on the last day", full().days(0), 999);
        Check.due("days(999) on day 0", fresh().days(999), 999);
        Check.due("days(1000) on day 0", fresh().days(1000), -1);
    }

    private static void noVillage(int village, int district, int shrine) {
        String call = "village(" + village + ", " + district + ", " + shrine + ", ..)";
        Supplier<AwardLine> made = EdgesCallsTest::some;
        Twin.refused(call, made, y -> y.village(village, district, shrine, false) ? 1 : 0, 0);
        Twin.refused(call, made, y -> y.village(village, district, shrine, true) ? 1 : 0, 0);
    }

    /** "A VILLAGE is told (SHRINE NONE: none): true; false: no such ones". */
    private static void promise7Village() {
        noVillage(-1, 0, 0);
        noVillage(9, 0, 0);
        noVillage(0, -1, 0);
        noVillage(0, 6, 0);
        noVillage(0, 0, -2);
        noVillage(0, 0, 2);
        for (int far : FAR) {
            noVillage(far, 0, 0);
            noVillage(0, far, 0);
            noVillage(0, 0, far);
        }
        AwardLine x = some();
        Check.due("told anew", x.village(0, 5, AwardLine.NONE, false), true);
        Check.due("its shrine is gone", x.does(0, 9, 5), 0);
        Check.due("its rail is gone", x.does(1, 9, 4), 0);
        Check.due("the other rails stay", x.does(2, 9, 4), 1);
    }

    /** "A HAND ERRS by so much: true; false: no such ones". */
    private static void promise8Errs() {
        for (int[] no : new int[][] {{-1, 10}, {4, 10}, {1, -1}, {1, 51}, {-1, -1}, {4, 51}}) {
            Twin.refused("errs(" + no[0] + ", " + no[1] + ")", EdgesCallsTest::some, y -> y.errs(no[0], no[1]) ? 1 : 0,
                    0);
        }
        for (int far : FAR) {
            Twin.refused("errs(" + far + ", 0)", EdgesCallsTest::some, y -> y.errs(far, 0) ? 1 : 0, 0);
            Twin.refused("errs(0, " + far + ")", EdgesCallsTest::some, y -> y.errs(0, far) ? 1 : 0, 0);
        }
        AwardLine x = some();
        Check.due("errs(0, 0)", x.errs(0, 0), true);
        Check.due("errs(3, 50)", x.errs(3, 50), true);
        Check.due("back to 0", x.errs(1, 0), true);
        Check.due("it doesn't err now", x.span(1, 0, 9, 1), 10);
    }

    /** "A COUNT: its NOTE's number; NONE: no such ones, or there are 80". */
    private static void promise9Count() {
        for (int[] no : new int[][] {{-1, 0, 1, 1}, {4, 0, 1, 1}, {0, -1, 1, 1}, {0, 9, 1, 1}, {0, 0, -1, 1},
            {0, 0, 1000, 1}, {0, 0, 1, -1}, {0, 0, 1, 1000}}) {
            Twin.none("a count of no such ones", EdgesCallsTest::some, y -> y.count(no[0], no[1], no[2], no[3]));
        }
        for (int far : FAR) {
            Twin.none("a count by " + far, EdgesCallsTest::some, y -> y.count(far, 0, 1, 1));
            Twin.none("a count of " + far, EdgesCallsTest::some, y -> y.count(0, far, 1, 1));
            Twin.none("a count of ones " + far, EdgesCallsTest::some, y -> y.count(0, 0, far, 1));
            Twin.none("a count of others " + far, EdgesCallsTest::some, y -> y.count(0, 0, 1, far));
        }
        Twin.none("a count behind 80", EdgesCallsTest::full, y -> y.count(0, 8, 0, 0));
        Check.due("the next one", some().count(3, 8, 999, 999), 7);
    }

    /** "A SIGHT .. a MEETING (1: two unlike PERSONS), an ACT .. NONE: no such ones, or there are 80". */
    private static void promise10Note() {
        int[][] none = {{0, 0, 0, 3}, {0, 1, 0, 8}, {0, 0, 0, 10}, {0, 2, 0, 9}, {0, -1, 0, 9}, {0, 0, 8, 9},
            {0, 0, -1, 9}, {1, 0, 0, 9}, {1, 7, 7, 9}, {1, 8, 0, 9}, {1, 0, 8, 9}, {1, -1, 0, 9}, {1, 0, -1, 9},
            {1, 0, 1, 10}, {1, 0, 1, -1}, {2, 2, 0, 9}, {2, -1, 0, 9}, {2, 0, 8, 9}, {2, 0, -1, 9}, {2, 0, 0, 10},
            {2, 0, 0, -1}, {3, 0, 1, 9}, {4, 0, 1, 9}, {-1, 0, 1, 9}};
        for (int[] n : none) {
            String call = "note(" + n[0] + ", " + n[1] + ", " + n[2] + ", " + n[3] + ")";
            Twin.none(call, EdgesCallsTest::some, y -> y.note(n[0], n[1], n[2], n[3]));
        }
        for (int far : FAR) {
            Check.due("what " + far, some().note(far, 0, 1, 9), -1);
            for (int what = 0; what < 3; what++) {
                Check.due("a " + far, some().note(what, far, 1, 9), -1);
                Check.due("b " + far, some().note(what, 0, far, 9), -1);
                Check.due("day " + far, some().note(what, 0, 1, far), -1);
            }
        }
        for (int what = 0; what < 3; what++) {
            int kind = what;
            Twin.none("note of kind " + what + " behind 80", EdgesCallsTest::full, y -> y.note(kind, 0, 1, 999));
            Check.due("the next one", some().note(what, 1, 0, 9), 7);
        }
        Check.due("a sight of no draft yet", fresh().note(0, 0, 0, 0), -1);
        Check.due("an act by no draft yet", fresh().note(2, 0, 0, 0), -1);
        Check.due("a meeting before any draft", fresh().note(1, 0, 1, 0), 0);
    }

    /** "A STRIKE: its NOTE's number; NONE: no such NOTE, or there are 80". */
    private static void promise11Strike() {
        Twin.none("strike(-1)", EdgesCallsTest::some, y -> y.strike(-1));
        Twin.none("strike of its own number", EdgesCallsTest::some, y -> y.strike(7));
        Twin.none("strike(8)", EdgesCallsTest::some, y -> y.strike(8));
        Twin.none("strike(0) of none", EdgesCallsTest::fresh, y -> y.strike(0));
        Twin.none("strike(0) behind 80", EdgesCallsTest::full, y -> y.strike(0));
        Twin.none("strike(79) behind 80", EdgesCallsTest::full, y -> y.strike(79));
        for (int far : FAR) {
            Twin.none("strike(" + far + ")", EdgesCallsTest::some, y -> y.strike(far));
        }
        Check.due("the first", some().strike(0), 7);
        Check.due("the last", some().strike(6), 7);
    }

    /** "-2: a QUARREL (of 0, 1). NONE: no such VILLAGE, side, DAY, what": that it is none comes first. */
    private static void promise12Span() {
        AwardLine x = some();
        x.count(0, 1, 500, 90);
        int[] due = {-2, -2, 0};
        for (int what = 0; what < 3; what++) {
            Check.due("a quarrel, " + what, x.span(1, 0, 9, what), due[what]);
            Check.due("a quarrel before it is told, " + what, x.span(1, 0, 8, what), new int[] {0, 999, 499}[what]);
            Check.due("no such day, " + what, x.span(1, 0, 1000, what), -1);
            Check.due("no such side, " + what, x.span(1, 2, 9, what), -1);
            Check.due("no such village, " + what, x.span(9, 0, 9, what), -1);
        }
        Check.due("no such what", x.span(1, 0, 9, 3), -1);
        Check.due("no such what", x.span(1, 0, 9, -1), -1);
        for (int far : FAR) {
            Check.due("village " + far, x.span(far, 0, 9, 0), -1);
            Check.due("side " + far, x.span(0, far, 9, 0), -1);
            Check.due("day " + far, x.span(0, 0, far, 0), -1);
            Check.due("what " + far, x.span(0, 0, 9, far), -1);
        }
    }

    /** "A CANAL by its HEAD: its number; NONE: no such VILLAGE, or there are 6". */
    private static void promise13Canal() {
        Twin.none("canal(-1)", EdgesCallsTest::some, y -> y.canal(-1));
        Twin.none("canal(9)", EdgesCallsTest::some, y -> y.canal(9));
        Twin.none("a seventh", EdgesCallsTest::full, y -> y.canal(8));
        for (int far : FAR) {
            Twin.none("canal(" + far + ")", EdgesCallsTest::some, y -> y.canal(far));
        }
        Check.due("a third", some().canal(0), 2);
    }

    /** "how many do; NONE: no such CANAL, VILLAGE, it is there, or five do". */
    private static void promise14Drinks() {
        int[][] none = {{-1, 3}, {2, 3}, {3, 3}, {6, 3}, {0, -1}, {0, 9}, {0, 0}, {0, 1}, {1, 8}, {1, 7}};
        for (int[] n : none) {
            Twin.none("drinks(" + n[0] + ", " + n[1] + ")", EdgesCallsTest::some, y -> y.drinks(n[0], n[1]));
        }
        for (int far : FAR) {
            Twin.none("drinks(" + far + ", 3)", EdgesCallsTest::some, y -> y.drinks(far, 3));
            Twin.none("drinks(0, " + far + ")", EdgesCallsTest::some, y -> y.drinks(0, far));
        }
        for (int canal = 0; canal < 6; canal++) {
            int of = canal;
            Twin.none("a sixth of " + canal, EdgesCallsTest::full, y -> y.drinks(of, (of + 6) % 9));
        }
        Twin.none("of no canal at all", EdgesCallsTest::fresh, y -> y.drinks(0, 1));
        Check.due("a second", some().drinks(0, 8), 2);
        Check.due("the other's head", some().drinks(1, 0), 2);
    }

    /** "The LINE that the TERMS give, PEOPLE as KNOWN on a DAY; NONE: no such DAY". */
    private static void promise15Given() {
        AwardLine x = some();
        // districts: 1 has 0 and 1, 2 has 2, 0 the others; like ones are given to side 0
        Check.due("given(9)", x.given(9), 0b111111100);
        Check.due("given(8): nobody is counted", x.given(8), 511);
        Check.due("given(0)", x.given(0), 511);
        Check.due("given(999)", x.given(999), 0b111111100);
        Check.due("given(-1)", x.given(-1), -1);
        Check.due("given(1000)", x.given(1000), -1);
        for (int far : FAR) {
            Check.due("given(" + far + ")", x.given(far), -1);
        }
    }

    /** "By another UNIT (0 village, 1 district, 2 land) .. NONE: no such ones". */
    private static void promise16Turned() {
        AwardLine x = some();
        // by village 0 is of side 0, too; by land all are of side 1
        Check.due("by village", x.turned(0, 9), 1);
        Check.due("by district, as the terms say", x.turned(1, 9), 0);
        Check.due("by land", x.turned(2, 9), 7);
        for (int unit : new int[] {-1, 3}) {
            Check.due("by " + unit, x.turned(unit, 9), -1);
        }
        Check.due("on -1", x.turned(0, -1), -1);
        Check.due("on 1000", x.turned(0, 1000), -1);
        for (int far : FAR) {
            Check.due("by " + far, x.turned(far, 9), -1);
            Check.due("on " + far, x.turned(0, far), -1);
        }
    }

    /** "A DRAFT: its number; NONE: bits of no VILLAGES, or there are 12". */
    private static void promise17Draft() {
        Twin.none("draft(512)", EdgesCallsTest::some, y -> y.draft(512));
        Twin.none("draft(513)", EdgesCallsTest::some, y -> y.draft(513));
        Twin.none("draft(-1)", EdgesCallsTest::some, y -> y.draft(-1));
        Twin.none("a thirteenth", EdgesCallsTest::full, y -> y.draft(0));
        for (int far : FAR) {
            Twin.none("draft(" + far + ")", EdgesCallsTest::some, y -> y.draft(far));
        }
        Check.due("of all", some().draft(511), 2);
        Check.due("of none", some().draft(0), 2);
    }

    /** "IndexOutOfBoundsException: no such DRAFT. NoSuchElementException: no such what". */
    private static void promise18Look() {
        AwardLine x = some();
        Check.due("the first line", Check.looked(x, 0, 0), 7);
        Check.due("the first day", Check.looked(x, 0, 1), 4);
        Check.due("the last line", Check.looked(x, 1, 0), 73);
        Check.due("the last day", Check.looked(x, 1, 1), 9);
        Check.due("draft 2", Check.looked(x, 2, 0), -101);
        Check.due("draft -1", Check.looked(x, -1, 1), -101);
        Check.due("what 2", Check.looked(x, 0, 2), -102);
        Check.due("what -1", Check.looked(x, 1, -1), -102);
        for (int far : FAR) {
            Check.due("draft " + far, Check.looked(x, far, 0), -101);
            Check.due("what " + far, Check.looked(x, 0, far), -102);
        }
        Check.due("draft 12 of 12", Check.looked(full(), 12, 0), -101);
        Check.due("draft 11 of 12", Check.looked(full(), 11, 0), 4);
        Twin.refused("look(2, 0)", EdgesCallsTest::some, y -> Check.looked(y, 2, 0), -101);
        Twin.refused("look(0, 2)", EdgesCallsTest::some, y -> Check.looked(y, 0, 2), -102);
    }

    /** "what 0: WRONG .. 6: HARM. NONE: no such ones". */
    private static void promise19Does() {
        AwardLine x = some();
        for (int what = 0; what <= 6; what++) {
            Check.due("line 0, what " + what, x.does(0, 0, what) >= 0, true);
            Check.due("line 511, what " + what, x.does(511, 999, what) >= 0, true);
            Check.due("line 512", x.does(512, 9, what), -1);
            Check.due("line -1", x.does(-1, 9, what), -1);
            Check.due("day -1", x.does(1, -1, what), -1);
            Check.due("day 1000", x.does(1, 1000, what), -1);
        }
        Check.due("what 7", x.does(1, 9, 7), -1);
        Check.due("what -1", x.does(1, 9, -1), -1);
        for (int far : FAR) {
            Check.due("line " + far, x.does(far, 9, 0), -1);
            Check.due("day " + far, x.does(1, far, 0), -1);
            Check.due("what " + far, x.does(1, 9, far), -1);
        }
    }

    /** "BEST, what 0: its LINE, 1: HARM. NONE: SPENT, no such ones". */
    private static void promise20Best() {
        AwardLine x = some();
        Check.due("its harm is the line's", x.best(9, 1), x.does(x.best(9, 0), 9, 6));
        for (int what = 0; what <= 1; what++) {
            Check.due("on 0", x.best(0, what) >= 0, true);
            Check.due("on 999", x.best(999, what) >= 0, true);
            Check.due("on -1", x.best(-1, what), -1);
            Check.due("on 1000", x.best(1000, what), -1);
        }
        Check.due("what 2", x.best(9, 2), -1);
        Check.due("what -1", x.best(9, -1), -1);
        for (int far : FAR) {
            Check.due("on " + far, x.best(far, 0), -1);
            Check.due("what " + far, x.best(9, far), -1);
        }
        x.land(4, 5);
        Check.due("spent", x.best(9, 0), -1);
        Check.due("spent: its harm", x.best(9, 1), -1);
        x.land(4, 4);
        Check.due("not spent", x.best(9, 1), 16 * 499);
    }

    /** "100 a and 10 b and c; NONE: none, no such ones". */
    private static void promise21Weights() {
        AwardLine x = some();
        Check.due("of no village", x.weights(0, 9), 0);
        Check.due("of all", x.weights(511, 9), 1);
        Check.due("none", x.weights(2, 9), -1);
        Check.due("line 512", x.weights(512, 9), -1);
        Check.due("line -1", x.weights(-1, 9), -1);
        Check.due("on -1", x.weights(0, -1), -1);
        Check.due("on 1000", x.weights(0, 1000), -1);
        for (int far : FAR) {
            Check.due("line " + far, x.weights(far, 9), -1);
            Check.due("on " + far, x.weights(0, far), -1);
        }
    }

    /** "From when a PERSON can KNOW a DRAFT, as KNOWN on a DAY; NONE: never, no such ones". */
    private static void promise22Knows() {
        AwardLine x = some();
        Check.due("by a sight", x.knows(0, 0, 9), 5);
        Check.due("by a meeting", x.knows(1, 0, 9), 6);
        Check.due("as known on 8", x.knows(0, 0, 8), -1);
        Check.due("never", x.knows(2, 0, 9), -1);
        Check.due("the other draft", x.knows(0, 1, 9), -1);
        int[][] none = {{-1, 0, 9}, {8, 0, 9}, {0, -1, 9}, {0, 2, 9}, {0, 0, -1}, {0, 0, 1000}};
        for (int[] n : none) {
            Check.due("knows of no such ones", x.knows(n[0], n[1], n[2]), -1);
        }
        for (int far : FAR) {
            Check.due("person " + far, x.knows(far, 0, 9), -1);
            Check.due("draft " + far, x.knows(0, far, 9), -1);
            Check.due("day " + far, x.knows(0, 0, far), -1);
        }
    }

    /** "2 SURE, 1 MAY BE, 0 not EXPLAINED; NONE: it is none, isn't KNOWN, no such ones". */
    private static void promise23Explained() {
        AwardLine x = some();
        Check.due("may be", x.explained(4, 9), 1);
        Check.due("isn't known on 8", x.explained(4, 8), -1);
        for (int note : new int[] {0, 1, 2, 3, 5, 6}) {
            Check.due("note " + note + " is no act", x.explained(note, 9), -1);
        }
        Check.due("note 7", x.explained(7, 9), -1);
        Check.due("note -1", x.explained(-1, 9), -1);
        Check.due("day -1", x.explained(4, -1), -1);
        Check.due("day 1000", x.explained(4, 1000), -1);
        for (int far : FAR) {
            Check.due("note " + far, x.explained(far, 9), -1);
            Check.due("day " + far, x.explained(4, far), -1);
        }
        x.strike(2);
        Check.due("not explained without the sight", x.explained(4, 9), 0);
        x.strike(4);
        Check.due("it is struck", x.explained(4, 9), -1);
        Check.due("note 79 of 80", full().explained(79, 999) >= 0, true);
        Check.due("note 80 of 80", full().explained(80, 999), -1);
    }

    /** "THROUGH whom (bits of PERSONS), as KNOWN on a DAY; NONE: no such DAY". */
    private static void promise24Through() {
        AwardLine x = some();
        Check.due("through(9)", x.through(9), 1);
        Check.due("through(8)", x.through(8), 0);
        Check.due("through(0)", x.through(0), 0);
        Check.due("through(999)", x.through(999), 1);
        Check.due("through(-1)", x.through(-1), -1);
        Check.due("through(1000)", x.through(1000), -1);
        for (int far : FAR) {
            Check.due("through(" + far + ")", x.through(far), -1);
        }
    }

    /** "A CANDIDATE: its number; NONE: no such VILLAGE, it is one, or there are 8". */
    private static void promise25Candidate() {
        for (int no : new int[] {-1, 9, 2, 5}) {
            Twin.none("candidate(" + no + ")", EdgesCallsTest::some, y -> y.candidate(no));
        }
        for (int far : FAR) {
            Twin.none("candidate(" + far + ")", EdgesCallsTest::some, y -> y.candidate(far));
        }
        Twin.none("a ninth", EdgesCallsTest::full, y -> y.candidate(8));
        Twin.none("the last one again", EdgesCallsTest::full, y -> y.candidate(7));
        Check.due("a third", some().candidate(0), 2);
        Check.due("another third", some().candidate(8), 2);
    }

    /** "over D DAYS (0 .. 20), with GUARDS at CANDIDATES (bits; of others not looked at) .. NONE: no such ones". */
    private static void promise26Flight() {
        AwardLine x = some();
        for (int what = 0; what <= 2; what++) {
            Check.due("in 0 days", x.flight(7, 0, 0, 9, what) >= 0, true);
            Check.due("in 20 days", x.flight(7, 20, 0, 9, what) >= 0, true);
            Check.due("others are not looked at", x.flight(7, 5, -4, 9, what), x.flight(7, 5, 0, 9, what));
            Check.due("others are not looked at", x.flight(7, 5, 7, 9, what), x.flight(7, 5, 3, 9, what));
            Check.due("all bits", x.flight(7, 5, -1, 9, what), x.flight(7, 5, 3, 9, what));
        }
        Check.due("nobody is lost in no day", x.flight(7, 0, 0, 9, 0), 0);
        Check.due("all are there still", x.flight(7, 0, 0, 9, 1), x.does(7, 9, 0));
        int[][] none = {{-1, 1, 0, 9, 0}, {512, 1, 0, 9, 0}, {7, -1, 0, 9, 0}, {7, 21, 0, 9, 0}, {7, 1, 0, -1, 0},
            {7, 1, 0, 1000, 0}, {7, 1, 0, 9, -1}, {7, 1, 0, 9, 3}};
        for (int[] n : none) {
            Check.due("flight of no such ones", x.flight(n[0], n[1], n[2], n[3], n[4]), -1);
        }
        for (int far : FAR) {
            Check.due("line " + far, x.flight(far, 1, 0, 9, 0), -1);
            Check.due("days " + far, x.flight(7, far, 0, 9, 0), -1);
            Check.due("guards " + far, x.flight(7, 1, far, 9, 0), x.flight(7, 1, far & 3, 9, 0));
            Check.due("on " + far, x.flight(7, 1, 0, far, 0), -1);
            Check.due("what " + far, x.flight(7, 1, 0, 9, far), -1);
        }
    }

    /** "GUARDS for m at most over DRAFTS (bits, one at least) in D DAYS .. NONE: no such ones". */
    private static void promise27Guards() {
        AwardLine x = some();
        for (int what = 0; what <= 1; what++) {
            Check.due("for none, over one, in one", x.guards(0, 1, 1, 0, what) >= 0, true);
            Check.due("for 8, over all, in 20", x.guards(8, 3, 20, 999, what) >= 0, true);
        }
        Check.due("for more than there are, as for all", x.guards(8, 3, 20, 9, 0), x.guards(2, 3, 20, 9, 0));
        int[][] none = {{-1, 1, 1, 9, 0}, {9, 1, 1, 9, 0}, {1, 0, 1, 9, 0}, {1, -1, 1, 9, 0}, {1, 4, 1, 9, 0},
            {1, 5, 1, 9, 0}, {1, 1, 0, 9, 0}, {1, 1, 21, 9, 0}, {1, 1, -1, 9, 0}, {1, 1, 1, -1, 0},
            {1, 1, 1, 1000, 0}, {1, 1, 1, 9, -1}, {1, 1, 1, 9, 2}};
        for (int[] n : none) {
            Check.due("guards of no such ones", x.guards(n[0], n[1], n[2], n[3], n[4]), -1);
        }
        for (int far : FAR) {
            Check.due("for " + far, x.guards(far, 1, 1, 9, 0), -1);
            Check.due("over " + far, x.guards(1, far, 1, 9, 0), -1);
            Check.due("in " + far, x.guards(1, 1, far, 9, 0), -1);
            Check.due("on " + far, x.guards(1, 1, 1, far, 0), -1);
            Check.due("what " + far, x.guards(1, 1, 1, 9, far), -1);
        }
        Check.due("over no draft at all", fresh().guards(0, 1, 1, 0, 0), -1);
        Check.due("over all twelve", full().guards(8, 4095, 20, 999, 1) >= 0, true);
        Check.due("over a thirteenth", full().guards(8, 4096, 20, 999, 1), -1);
    }

    /** "NONE for another what". */
    private static void promise28Counted() {
        int[] ofSome = {9, 9, 7, 2, 2, 2, 3, 20, 30};
        int[] ofFull = {999, 9, 80, 6, 12, 8, 0, 10, 5};
        AwardLine x = some();
        AwardLine y = full();
        for (int what = 0; what <= 8; what++) {
            Check.due("counted(" + what + ") of some", x.counted(what), ofSome[what]);
            Check.due("counted(" + what + ") of full", y.counted(what), ofFull[what]);
        }
        Check.due("counted(9)", x.counted(9), -1);
        Check.due("counted(-1)", x.counted(-1), -1);
        for (int far : FAR) {
            Check.due("counted(" + far + ")", x.counted(far), -1);
        }
    }
}
