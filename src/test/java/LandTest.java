/** Promises 1, 5 to 11, 13, 14, 17, 18, 25 and 28: the land, the days, and what is told of them. */
public final class LandTest {
    public static void main(String[] args) {
        promise1NewObject();
        promise5Land();
        promise5KeepsTodayHandsTermsTape();
        promise6Days();
        promise7Village();
        promise8Errs();
        promise9Count();
        promise10Note();
        promise11Strike();
        promise13Canal();
        promise14Drinks();
        promise17Draft();
        promise18Look();
        promise25Candidate();
        promise28Counted();
        Check.end();
    }

    private static void promise1NewObject() {
        AwardLine x = new AwardLine();
        int[] want = {0, 9, 0, 0, 0, 0, 0, 10, 5};
        for (int i = 0; i < want.length; i++) {
            Check.due("new counted(" + i + ")", x.counted(i), want[i]);
        }
        Check.due("new fault(0)", x.fault(0), 0);
        Check.due("new fault(1)", x.fault(1), -1);
        Check.due("new terms(1)", x.terms(1), -2);
        Check.due("new does(0, 0, 5)", x.does(0, 0, 5), 0);
        Check.due("new does(511, 0, 4)", x.does(1, 0, 4), 0);
        Check.due("new feed", x.feed(0, 0, 0, 0, 0), 20);
        Check.due("NONE", AwardLine.NONE, -1);
    }

    private static AwardLine filled() {
        AwardLine x = new AwardLine();
        x.days(7);
        x.village(4, 3, 1, true);
        x.village(5, 3, 0, true);
        x.errs(2, 50);
        x.count(2, 4, 10, 20);
        x.canal(4);
        x.drinks(0, 5);
        x.draft(3);
        x.candidate(4);
        Check.terms(x, "fear 1;lose 2;first 1+1+1;");
        x.feed(0, 0, 0, 0, 0);
        return x;
    }

    private static void promise5Land() {
        AwardLine x = filled();
        int[][] none = {{1, 2}, {2, 1}, {6, 2}, {2, 6}, {0, 0}, {-3, 3}, {3, Integer.MAX_VALUE}};
        for (int[] n : none) {
            Check.due("land(" + n[0] + ", " + n[1] + ")", x.land(n[0], n[1]), false);
        }
        Check.due("notes after no land", x.counted(2), 1);
        Check.due("villages after no land", x.counted(1), 9);
        Check.due("span after no land", x.span(4, 0, 7, 1), 15);
        for (int w = 2; w <= 5; w++) {
            for (int h = 2; h <= 5; h++) {
                Check.due("land(" + w + ", " + h + ")", x.land(w, h), true);
                Check.due("villages of " + w + " by " + h, x.counted(1), w * h);
            }
        }
    }

    private static void promise5KeepsTodayHandsTermsTape() {
        AwardLine x = filled();
        Check.due("land(3, 2)", x.land(3, 2), true);
        int[] want = {7, 6, 0, 0, 0, 0, 5, 1, 2};
        for (int i = 0; i < want.length; i++) {
            Check.due("counted(" + i + ") after land", x.counted(i), want[i]);
        }
        Check.due("no shrine is left", x.does(0, 7, 5) + x.does(63, 7, 5), 0);
        Check.due("no rail is left", x.does(16, 7, 4), 0);
        Check.due("no count is left", x.span(4, 0, 7, 1), 999);
        Check.due("no canal is left", x.drinks(0, 1), -1);
        Check.due("no draft is left", Check.looked(x, 0, 0), -101);
        Check.terms(x, "unit district;first villages = 6;");
        Check.due("all is district 0 again", x.given(7), 63);
        Check.terms(x, "unit district;first villages < 6;");
        Check.due("no other district has a village", x.given(7), 0);
        Check.terms(x, "first rails or heads or shrines;");
        Check.due("nothing stands in a village", x.given(7), 0);
        x.canal(0);
        Check.due("nobody drinks of a new canal", x.drinks(0, 5), 1);
        x.count(2, 4, 10, 20);
        Check.due("the hand errs still", x.span(4, 0, 7, 1), 15);
        AwardLine y = filled();
        y.land(2, 2);
        Check.due("the tape stays", y.feed(0, 0, 0, 0, 0), 40);
    }

    private static void promise6Days() {
        AwardLine x = new AwardLine();
        Check.due("days(0)", x.days(0), 0);
        Check.due("days(-1)", x.days(-1), -1);
        Check.due("days(1000)", x.days(1000), -1);
        Check.due("days(MIN)", x.days(Integer.MIN_VALUE), -1);
        Check.due("days(MAX)", x.days(Integer.MAX_VALUE), -1);
        Check.due("days(400)", x.days(400), 400);
        Check.due("days(600)", x.days(600), -1);
        Check.due("today", x.counted(0), 400);
        Check.due("days(599)", x.days(599), 999);
        Check.due("days(1)", x.days(1), -1);
        Check.due("days(0)", x.days(0), 999);
        Check.due("new days(999)", new AwardLine().days(999), 999);
    }

    private static void promise7Village() {
        AwardLine x = new AwardLine();
        Check.due("village(0, 5, 1, true)", x.village(0, 5, 1, true), true);
        Check.due("village(9, ..)", x.village(9, 0, 0, true), false);
        Check.due("village(-1, ..)", x.village(-1, 0, 0, true), false);
        Check.due("district 6", x.village(0, 6, 0, false), false);
        Check.due("district -1", x.village(0, -1, 0, false), false);
        Check.due("shrine 2", x.village(0, 0, 2, false), false);
        Check.due("shrine -2", x.village(0, 0, -2, false), false);
        x.village(1, 5, -1, true);
        Check.due("a refused one changes nothing: shrine", x.does(1, 0, 5), 1);
        Check.due("a refused one changes nothing: rail", x.does(1, 0, 4), 1);
        Check.terms(x, "unit district;first villages=2;");
        Check.due("a refused one changes nothing: district", x.given(0), 3);
        Check.due("told anew", x.village(0, 1, -1, false), true);
        Check.due("its shrine is gone", x.does(1, 0, 5), 0);
        Check.due("its rail is gone", x.does(1, 0, 4), 0);
        Check.due("its district is another", x.given(0), 0);
        x.village(0, 1, 1, false);
        x.village(0, 1, 0, false);
        Check.due("one shrine at most", x.does(0, 0, 5), 1);
        Check.due("one shrine at most", x.does(1, 0, 5), 0);
    }

    private static void promise8Errs() {
        AwardLine x = new AwardLine();
        Check.due("errs(3, 50)", x.errs(3, 50), true);
        Check.due("errs(0, 0)", x.errs(0, 0), true);
        Check.due("errs(-1, 0)", x.errs(-1, 0), false);
        Check.due("errs(4, 0)", x.errs(4, 0), false);
        Check.due("errs(0, -1)", x.errs(0, -1), false);
        Check.due("errs(3, 51)", x.errs(3, 51), false);
        x.count(3, 0, 10, 0);
        Check.due("by 50 still", x.span(0, 0, 0, 0), 5);
        x.errs(3, 10);
        Check.due("by 10 now", x.span(0, 0, 0, 0), 9);
        x.count(0, 1, 10, 0);
        Check.due("another hand", x.span(1, 0, 0, 0), 10);
    }

    private static void promise9Count() {
        AwardLine x = new AwardLine();
        int[][] none = {{-1, 0, 0, 0}, {4, 0, 0, 0}, {0, -1, 0, 0}, {0, 9, 0, 0}, {0, 0, -1, 0}, {0, 0, 1000, 0},
            {0, 0, 0, -1}, {0, 0, 0, 1000}};
        for (int[] n : none) {
            Check.due("a count of none", x.count(n[0], n[1], n[2], n[3]), -1);
        }
        Check.due("no notes", x.counted(2), 0);
        Check.due("count(3, 8, 999, 999)", x.count(3, 8, 999, 999), 0);
        for (int i = 1; i < 80; i++) {
            Check.due("count " + i, x.count(0, 0, 0, 0), i);
        }
        Check.due("the 81st", x.count(0, 1, 5, 5), -1);
        Check.due("notes", x.counted(2), 80);
        Check.due("the 81st doesn't count", x.span(1, 0, 0, 1), 999);
    }

    private static void promise10Note() {
        AwardLine x = new AwardLine();
        x.days(5);
        x.draft(1);
        x.days(5);
        Check.due("a sight before it was drawn", x.note(0, 0, 0, 4), -1);
        Check.due("a sight on that day", x.note(0, 0, 0, 5), 0);
        Check.due("a sight today", x.note(0, 0, 7, 10), 1);
        Check.due("a sight tomorrow", x.note(0, 0, 0, 11), -1);
        Check.due("a sight of no draft", x.note(0, 1, 0, 10), -1);
        Check.due("a sight of draft -1", x.note(0, -1, 0, 10), -1);
        Check.due("a sight by nobody", x.note(0, 0, 8, 10), -1);
        Check.due("a sight by -1", x.note(0, 0, -1, 10), -1);
        Check.due("a meeting on day 0", x.note(1, 7, 0, 0), 2);
        Check.due("a meeting tomorrow", x.note(1, 7, 0, 11), -1);
        Check.due("a meeting on day -1", x.note(1, 7, 0, -1), -1);
        Check.due("a meeting with himself", x.note(1, 3, 3, 5), -1);
        Check.due("a meeting with nobody", x.note(1, 8, 3, 5), -1);
        Check.due("a meeting with nobody", x.note(1, 3, 8, 5), -1);
        Check.due("a meeting with -1", x.note(1, -1, 3, 5), -1);
        Check.due("an act before it was drawn", x.note(2, 0, 3, 0), 3);
        Check.due("an act today", x.note(2, 0, 3, 10), 4);
        Check.due("an act tomorrow", x.note(2, 0, 3, 11), -1);
        Check.due("an act on day -1", x.note(2, 0, 3, -1), -1);
        Check.due("an act by no draft", x.note(2, 1, 3, 10), -1);
        Check.due("an act by nobody", x.note(2, 0, 8, 10), -1);
        Check.due("what 3", x.note(3, 0, 1, 10), -1);
        Check.due("what 4", x.note(4, 0, 1, 10), -1);
        Check.due("what -1", x.note(-1, 0, 1, 10), -1);
        for (int i = 5; i < 80; i++) {
            Check.due("note " + i, x.note(i % 3, 0, 1, 10), i);
        }
        Check.due("the 81st", x.note(1, 0, 1, 10), -1);
    }

    private static void promise11Strike() {
        AwardLine x = new AwardLine();
        Check.due("strike of none", x.strike(0), -1);
        x.count(0, 0, 10, 10);
        x.days(1);
        Check.due("strike(-1)", x.strike(-1), -1);
        Check.due("strike(1)", x.strike(1), -1);
        Check.due("strike(0)", x.strike(0), 1);
        Check.due("known before", x.span(0, 0, 0, 0), 10);
        Check.due("struck", x.span(0, 0, 1, 1), 999);
        x.days(1);
        Check.due("a strike is struck", x.strike(1), 2);
        Check.due("it doesn't count then", x.span(0, 0, 2, 0), 10);
        Check.due("it did the day before", x.span(0, 0, 1, 1), 999);
        Check.due("a strike of a strike's strike", x.strike(2), 3);
        Check.due("struck again", x.span(0, 0, 2, 1), 999);
        Check.due("struck twice", x.strike(0), 4);
        Check.due("the first strike's strike counts again", x.strike(3), 5);
        Check.due("but the second strike stands", x.span(0, 0, 2, 1), 999);
        for (int i = 6; i < 80; i++) {
            Check.due("strike " + i, x.strike(0), i);
        }
        Check.due("the 81st", x.strike(0), -1);
    }

    private static void promise13Canal() {
        AwardLine x = new AwardLine();
        Check.due("canal(-1)", x.canal(-1), -1);
        Check.due("canal(9)", x.canal(9), -1);
        for (int i = 0; i < 6; i++) {
            Check.due("canal " + i, x.canal(8), i);
        }
        Check.due("a seventh", x.canal(0), -1);
        Check.due("canals", x.counted(3), 6);
        Check.terms(x, "unit land;first heads=1;");
        Check.due("one village is the head of all", x.given(0), 511);
    }

    private static void promise14Drinks() {
        AwardLine x = new AwardLine();
        Check.due("of no canal", x.drinks(0, 1), -1);
        x.canal(4);
        x.canal(0);
        Check.due("of canal -1", x.drinks(-1, 1), -1);
        Check.due("of canal 2", x.drinks(2, 1), -1);
        Check.due("no village", x.drinks(0, 9), -1);
        Check.due("no village", x.drinks(0, -1), -1);
        Check.due("the head", x.drinks(0, 4), -1);
        for (int i = 0; i < 4; i++) {
            Check.due("drinks " + i, x.drinks(0, i), i + 1);
        }
        Check.due("it is there", x.drinks(0, 3), -1);
        Check.due("of another canal it may", x.drinks(1, 4), 1);
        Check.due("a fifth", x.drinks(0, 8), 5);
        Check.due("a sixth", x.drinks(0, 7), -1);
        Check.due("cut of both", x.does(16, 0, 3), 6);
    }

    private static void promise17Draft() {
        AwardLine x = new AwardLine();
        Check.due("draft(-1)", x.draft(-1), -1);
        Check.due("draft(512)", x.draft(512), -1);
        for (int i = 0; i < 12; i++) {
            Check.due("draft " + i, x.draft(i == 0 ? 511 : 0), i);
        }
        Check.due("a thirteenth", x.draft(0), -1);
        Check.due("drafts", x.counted(4), 12);
        x.land(5, 5);
        Check.due("all of 25", x.draft((1 << 25) - 1), 0);
        Check.due("more than 25", x.draft(1 << 25), -1);
    }

    private static void promise18Look() {
        AwardLine x = new AwardLine();
        Check.due("look(0, 0) of none", Check.looked(x, 0, 0), -101);
        x.days(3);
        x.draft(77);
        x.days(3);
        x.draft(5);
        Check.due("look(0, 0)", Check.looked(x, 0, 0), 77);
        Check.due("look(0, 1)", Check.looked(x, 0, 1), 3);
        Check.due("look(1, 0)", Check.looked(x, 1, 0), 5);
        Check.due("look(1, 1)", Check.looked(x, 1, 1), 6);
        Check.due("look(2, 0)", Check.looked(x, 2, 0), -101);
        Check.due("look(-1, 0)", Check.looked(x, -1, 0), -101);
        Check.due("look(0, 2)", Check.looked(x, 0, 2), -102);
        Check.due("look(0, -1)", Check.looked(x, 0, -1), -102);
        Check.due("look(2, 2)", Check.looked(x, 2, 2), -101);
    }

    private static void promise25Candidate() {
        AwardLine x = new AwardLine();
        Check.due("candidate(-1)", x.candidate(-1), -1);
        Check.due("candidate(9)", x.candidate(9), -1);
        for (int i = 0; i < 8; i++) {
            Check.due("candidate " + i, x.candidate(8 - i), i);
        }
        Check.due("it is one", x.candidate(8), -1);
        AwardLine y = new AwardLine();
        y.candidate(3);
        Check.due("it is the only one", y.candidate(3), -1);
        Check.due("a ninth", x.candidate(0), -1);
        Check.due("candidates", x.counted(5), 8);
    }

    private static void promise28Counted() {
        AwardLine x = filled();
        int[] want = {7, 9, 1, 1, 1, 1, 5, 1, 2};
        for (int i = 0; i < want.length; i++) {
            Check.due("counted(" + i + ")", x.counted(i), want[i]);
        }
        Check.due("counted(9)", x.counted(9), -1);
        Check.due("counted(-1)", x.counted(-1), -1);
    }
}
