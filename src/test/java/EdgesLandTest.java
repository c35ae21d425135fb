/**
 * The edges that the first part of the document's Terms names, sentence by sentence in its order: days, land,
 * notes, counts, spans, canals. Each method quotes the words that it holds the class to.
 */
public final class EdgesLandTest {
    private static final int[] NO_DAYS = {-1, 1000, Integer.MIN_VALUE, Integer.MAX_VALUE};

    public static void main(String[] args) {
        daysAreOf0To999();
        todayIs0AtFirst();
        landsAreOf2To5();
        landIs3By3AtFirst();
        villagesAreNumberedByRows();
        besideIsInItsRowOrColumn();
        villagesEndWithTheLand();
        linesEndWithTheLand();
        districtsAreOf0To5();
        nothingStandsThereAtFirst();
        sidesAre0And1();
        notesAreAtMost80();
        notesAreNumberedFrom0On();
        notesAreToldOnToday();
        knownAreThoseToldByThen();
        allThatIsAskedIsAsKnown();
        aStrikeMayBeStruck();
        strikesAreAskedFromTheLastOneOn();
        countsOfEachHandAndNumber();
        handsErrBy0To50();
        sharesGoDownAndUp();
        spansOfNoCounts();
        spansMeetInOneNumber();
        peopleAreTheMiddle();
        canalsAreAtMost6();
        canalsAreOfUnlikeVillages();
        Check.end();
    }

    /** What each call that takes a day answers on it; none of these is below 0 on a day that there is. */
    private static int[] askedOn(AwardLine x, int day) {
        return new int[] {x.span(0, 0, day, 0), x.given(day), x.turned(0, day), x.does(0, day, 0), x.best(day, 0),
            x.weights(0, day), x.through(day), x.flight(0, 0, 0, day, 0), x.guards(0, 1, 1, day, 0),
            x.knows(0, 0, day), x.explained(1, day)};
    }

    /** "DAYS 0 .. 999". */
    private static void daysAreOf0To999() {
        AwardLine x = new AwardLine();
        x.draft(0);
        x.note(0, 0, 0, 0);
        x.note(2, 0, 0, 0);
        for (int day : new int[] {0, 1, 998, 999}) {
            for (int answer : askedOn(x, day)) {
                Check.due("a call asked on day " + day, answer >= 0, true);
            }
        }
        for (int day : NO_DAYS) {
            for (int answer : askedOn(x, day)) {
                Check.due("a call asked on day " + day, answer, -1);
            }
            Check.due("a meeting on day " + day, x.note(1, 0, 1, day), -1);
        }
        x.days(999);
        Check.due("a meeting on day 999", x.note(1, 0, 1, 999), 2);
        Check.due("a meeting on day 1000, though today is the last one", x.note(1, 0, 1, 1000), -1);
        Check.due("no day comes behind 999", x.days(1), -1);
    }

    /** "TODAY is 0 at first". */
    private static void todayIs0AtFirst() {
        AwardLine x = new AwardLine();
        Check.due("today", x.counted(0), 0);
        x.draft(1);
        Check.due("a draft of day 0", Check.looked(x, 0, 1), 0);
        Check.due("a meeting on day 1", x.note(1, 0, 1, 1), -1);
        Check.due("a meeting on day 0", x.note(1, 0, 1, 0), 0);
    }

    /** "LAND of W by H VILLAGES (2 .. 5 each". */
    private static void landsAreOf2To5() {
        for (int w = 0; w < 8; w++) {
            for (int h = 0; h < 8; h++) {
                AwardLine x = new AwardLine();
                boolean is = w >= 2 && w <= 5 && h >= 2 && h <= 5;
                Check.due("land(" + w + ", " + h + ")", x.land(w, h), is);
                Check.due("its villages", x.counted(1), is ? w * h : 9);
            }
        }
        AwardLine x = new AwardLine();
        int[] wild = {-1, -2, -5, Integer.MIN_VALUE, Integer.MAX_VALUE, 65538, 1 << 30};
        for (int n : wild) {
            Check.due("land(" + n + ", 2)", x.land(n, 2), false);
            Check.due("land(2, " + n + ")", x.land(2, n), false);
            Check.due("land(" + n + ", " + n + ")", x.land(n, n), false);
        }
    }

    /** "3 by 3 at first": as wide as high, which six or twelve villages wouldn't be. */
    private static void landIs3By3AtFirst() {
        AwardLine x = new AwardLine();
        Check.due("villages", x.counted(1), 9);
        Check.due("0, 1, 2 are a row", x.does(0b000000111, 0, 1), 1);
        Check.due("3 isn't of it", x.does(0b000001100, 0, 1), 2);
        Check.due("0, 3, 6 are a column", x.does(0b001001001, 0, 1), 1);
    }

    /** "numbered by rows (y times W and x)": in lands that are not as wide as high. */
    private static void villagesAreNumberedByRows() {
        AwardLine wide = new AwardLine();
        wide.land(5, 2);
        Check.due("5 by 2: the first row", wide.does(0b11111, 0, 1), 1);
        Check.due("5 by 2: 0 and 5", wide.does(0b100001, 0, 1), 1);
        Check.due("5 by 2: 0 and 2", wide.does(0b101, 0, 1), 2);
        AwardLine high = new AwardLine();
        high.land(2, 5);
        Check.due("2 by 5: the first column", high.does(0b0101010101, 0, 1), 1);
        Check.due("2 by 5: 0 and 2", high.does(0b101, 0, 1), 1);
        Check.due("2 by 5: 0 and 5", high.does(0b100001, 0, 1), 2);
    }

    /** "BESIDE: next to it in its row or column": not round the end of a row, not over a corner. */
    private static void besideIsInItsRowOrColumn() {
        for (int w = 2; w <= 5; w++) {
            for (int h = 2; h <= 5; h++) {
                AwardLine x = new AwardLine();
                x.land(w, h);
                for (int u = 0; u < w * h; u++) {
                    for (int v = u + 1; v < w * h; v++) {
                        int steps = Math.abs(u % w - v % w) + Math.abs(u / w - v / w);
                        String pair = w + " by " + h + ": " + u + " and " + v;
                        Check.due(pair, x.does(1 << u | 1 << v, 0, 1), steps == 1 ? 1 : 2);
                    }
                }
            }
        }
    }

    /** "VILLAGES .. numbered": none is below 0, none is W times H or above, in each land. */
    private static void villagesEndWithTheLand() {
        for (int w = 2; w <= 5; w++) {
            for (int h = 2; h <= 5; h++) {
                AwardLine x = new AwardLine();
                x.land(w, h);
                int last = w * h - 1;
                Check.due("village " + last, x.village(last, 5, 1, true), true);
                Check.due("count of " + last, x.count(0, last, 1, 1), 0);
                Check.due("span of " + last, x.span(last, 0, 0, 0), 1);
                Check.due("canal of " + last, x.canal(last), 0);
                Check.due("candidate " + last, x.candidate(last), 0);
                Check.due("canal of 0", x.canal(0), 1);
                Check.due("drinks " + last, x.drinks(1, last), 1);
                for (int no : new int[] {-1, last + 1, last + 2, 25, 32, 33, Integer.MIN_VALUE, Integer.MAX_VALUE}) {
                    Check.due("village " + no, x.village(no, 0, 0, true), false);
                    Check.due("count of " + no, x.count(0, no, 1, 1), -1);
                    Check.due("span of " + no, x.span(no, 0, 0, 0), -1);
                    Check.due("canal of " + no, x.canal(no), -1);
                    Check.due("candidate " + no, x.candidate(no), -1);
                    Check.due("drinks " + no, x.drinks(1, no), -1);
                }
            }
        }
    }

    /** "LINES are told as bits of the VILLAGES": the last village's bit is one, the next is none, in each land. */
    private static void linesEndWithTheLand() {
        for (int w = 2; w <= 5; w++) {
            for (int h = 2; h <= 5; h++) {
                AwardLine x = new AwardLine();
                x.land(w, h);
                int all = (1 << w * h) - 1;
                Check.due("does of all", x.does(all, 0, 2), 0);
                Check.due("weights of all", x.weights(all, 0), 1);
                Check.due("flight of all", x.flight(all, 1, 0, 0, 0), 0);
                Check.due("draft of all", x.draft(all), 0);
                for (int no : new int[] {all + 1, all + 2, 1 << 25, -1, Integer.MIN_VALUE, Integer.MAX_VALUE}) {
                    Check.due("does of " + no, x.does(no, 0, 2), -1);
                    Check.due("weights of " + no, x.weights(no, 0), -1);
                    Check.due("flight of " + no, x.flight(no, 1, 0, 0, 0), -1);
                    Check.due("draft of " + no, x.draft(no), -1);
                }
            }
        }
    }

    /** "Each has a DISTRICT 0 .. 5 (0 at first)". */
    private static void districtsAreOf0To5() {
        AwardLine x = new AwardLine();
        Check.terms(x, "unit district;first villages = 9;");
        Check.due("all are of one district", x.given(0), 511);
        for (int d = 1; d <= 5; d++) {
            Check.due("district " + d, x.village(d, d, -1, false), true);
        }
        Check.terms(x, "unit district;first villages = 1;");
        Check.due("each of 1 to 5 has one village", x.given(0), 0b111110);
        Check.terms(x, "unit district;first villages = 4;");
        Check.due("the others are of 0, as at first", x.given(0), 0b111000001);
        for (int no : new int[] {-1, 6, 7, 32, Integer.MIN_VALUE, Integer.MAX_VALUE}) {
            Check.due("district " + no, x.village(0, no, -1, false), false);
        }
        Check.due("back to district 0", x.village(5, 0, -1, false), true);
        Check.terms(x, "unit district;first villages = 5;");
        Check.due("0 has one more", x.given(0), 0b111100001);
    }

    /** "a SHRINE of side 0 or 1, or none (at first), a RAIL or none (at first)". */
    private static void nothingStandsThereAtFirst() {
        AwardLine x = new AwardLine();
        Check.due("no shrine of side 0", x.does(0, 0, 5), 0);
        Check.due("no shrine of side 1", x.does(511, 0, 5), 0);
        Check.due("no rail", x.does(0b010101010, 0, 4), 0);
        Check.due("no canal", x.does(0b010101010, 0, 3), 0);
        for (int s : new int[] {-2, 2, 3, Integer.MIN_VALUE, Integer.MAX_VALUE}) {
            Check.due("shrine " + s, x.village(0, 0, s, false), false);
        }
        for (int s = -1; s <= 1; s++) {
            Check.due("shrine " + s, x.village(8, 0, s, true), true);
            Check.due("on side 1, shrine " + s, x.does(0, 0, 5), s == 0 ? 1 : 0);
            Check.due("on side 0, shrine " + s, x.does(511, 0, 5), s == 1 ? 1 : 0);
        }
        Check.due("one rail joins nothing", x.does(256, 0, 4), 0);
        x.village(5, 0, -1, true);
        Check.due("two do", x.does(256, 0, 4), 1);
    }

    /** "Side 0 is the first one, 1 the other". */
    private static void sidesAre0And1() {
        AwardLine x = new AwardLine();
        x.count(0, 0, 11, 22);
        Check.due("side 0", x.span(0, 0, 0, 2), 11);
        Check.due("side 1", x.span(0, 1, 0, 2), 22);
        for (int no : new int[] {-1, 2, Integer.MIN_VALUE, Integer.MAX_VALUE}) {
            for (int what = 0; what < 3; what++) {
                Check.due("side " + no, x.span(0, no, 0, what), -1);
            }
        }
    }

    /** Eighty notes, sixteen of each kind, all of day 0. */
    private static AwardLine fullOfNotes() {
        AwardLine x = new AwardLine();
        x.draft(0);
        for (int i = 0; i < 80; i += 5) {
            Check.due("note " + i, x.count(0, 0, 1, 1), i);
            Check.due("note " + (i + 1), x.note(0, 0, 0, 0), i + 1);
            Check.due("note " + (i + 2), x.note(1, 0, 1, 0), i + 2);
            Check.due("note " + (i + 3), x.note(2, 0, 1, 0), i + 3);
            Check.due("note " + (i + 4), x.strike(i), i + 4);
        }
        return x;
    }

    /** "NOTES, at most 80": of all kinds together, struck or not. */
    private static void notesAreAtMost80() {
        AwardLine x = fullOfNotes();
        Check.due("notes", x.counted(2), 80);
        Check.due("an 81st: a count", x.count(0, 0, 1, 1), -1);
        Check.due("an 81st: a sight", x.note(0, 0, 0, 0), -1);
        Check.due("an 81st: a meeting", x.note(1, 0, 1, 0), -1);
        Check.due("an 81st: an act", x.note(2, 0, 1, 0), -1);
        Check.due("an 81st: a strike", x.strike(79), -1);
        Check.due("notes still", x.counted(2), 80);
        Check.due("the last strike stands", x.span(0, 0, 0, 1), 999);
    }

    /** "numbered from 0 on": in each land anew. */
    private static void notesAreNumberedFrom0On() {
        AwardLine x = fullOfNotes();
        x.land(2, 2);
        Check.due("no notes", x.counted(2), 0);
        Check.due("none to strike", x.strike(0), -1);
        for (int i = 0; i < 80; i++) {
            Check.due("note " + i, x.count(3, 3, 1, 1), i);
        }
        Check.due("an 81st", x.count(3, 3, 1, 1), -1);
    }

    /** "each TOLD on TODAY": whatever day it tells of. */
    private static void notesAreToldOnToday() {
        AwardLine x = new AwardLine();
        x.draft(0);
        x.days(5);
        x.note(0, 0, 0, 0);
        int act = x.note(2, 0, 0, 3);
        Check.due("a sight of day 0 as known on 4", x.knows(0, 0, 4), -1);
        Check.due("a sight of day 0 as known on 5", x.knows(0, 0, 5), 0);
        Check.due("an act of day 3 as known on 4", x.explained(act, 4), -1);
        Check.due("an act of day 3 as known on 5", x.explained(act, 5), 2);
    }

    /** "As KNOWN on a DAY k: those TOLD by k": on k, too, and on the days that are still to come. */
    private static void knownAreThoseToldByThen() {
        AwardLine x = new AwardLine();
        x.days(500);
        x.count(0, 0, 7, 8);
        Check.due("on 0", x.span(0, 0, 0, 1), 999);
        Check.due("on 499", x.span(0, 0, 499, 1), 999);
        Check.due("on 500", x.span(0, 0, 500, 1), 7);
        Check.due("on 501, which isn't yet", x.span(0, 0, 501, 1), 7);
        Check.due("on 999, which isn't yet", x.span(0, 0, 999, 1), 7);
        x.days(1);
        x.strike(0);
        Check.due("on 500 it isn't struck", x.span(0, 0, 500, 1), 7);
        Check.due("on 501 it is", x.span(0, 0, 501, 1), 999);
    }

    /** "PEOPLE as KNOWN on a DAY": of each call that asks for them, the day before and the day. */
    private static void allThatIsAskedIsAsKnown() {
        AwardLine x = new AwardLine();
        x.land(2, 2);
        x.draft(8);
        x.candidate(0);
        x.days(500);
        int[][] people = {{100, 0}, {0, 0}, {0, 0}, {0, 50}};
        for (int v = 0; v < 4; v++) {
            x.count(0, v, people[v][0], people[v][1]);
        }
        Check.due("given before", x.given(499), 0);
        Check.due("given", x.given(500), 1);
        Check.due("turned before", x.turned(2, 499), 0);
        Check.due("turned", x.turned(2, 500), 3);
        Check.due("does before", x.does(8, 499, 0), 4 * 499);
        Check.due("does", x.does(8, 500, 0), 150);
        Check.due("best before", x.best(499, 0), 0);
        Check.due("best", x.best(500, 0), 1);
        Check.due("its harm before", x.best(499, 1), 4 * 499);
        Check.due("its harm", x.best(500, 1), 0);
        Check.due("weights before", x.weights(1, 499), -1);
        Check.due("weights", x.weights(1, 500), 100);
        // before: 50 of 499 go from each village, 3 are lost
        Check.due("flight before", x.flight(8, 1, 0, 499, 0), 12);
        Check.due("flight", x.flight(8, 1, 0, 500, 0), 1 + 1);
        Check.due("guards before", x.guards(1, 1, 1, 499, 1), 9);
        Check.due("guards", x.guards(1, 1, 1, 500, 1), 1);
    }

    /** "a STRIKE may be STRUCK: then it doesn't count": a row of them, as long as can be. */
    private static void aStrikeMayBeStruck() {
        AwardLine x = new AwardLine();
        x.count(0, 0, 7, 8);
        for (int i = 1; i < 80; i++) {
            x.days(1);
            Check.due("strike " + i, x.strike(i - 1), i);
            Check.due("behind " + i + " strikes", x.span(0, 0, i, 1), i % 2 == 0 ? 7 : 999);
        }
        for (int day = 0; day < 80; day++) {
            Check.due("as known on " + day, x.span(0, 0, day, 1), day % 2 == 0 ? 7 : 999);
        }
    }

    /** "asked from the last one on": of two strikes one is struck, then the other; none strikes what isn't yet. */
    private static void strikesAreAskedFromTheLastOneOn() {
        AwardLine x = new AwardLine();
        x.count(0, 0, 7, 8);
        Check.due("a strike of itself", x.strike(1), -1);
        x.strike(0);
        x.strike(0);
        Check.due("struck twice", x.span(0, 0, 0, 1), 999);
        x.strike(1);
        Check.due("the second strike counts still", x.span(0, 0, 0, 1), 999);
        int last = x.strike(2);
        Check.due("none counts any more", x.span(0, 0, 0, 1), 7);
        x.strike(last);
        Check.due("the second counts again", x.span(0, 0, 0, 1), 999);
    }

    /** "a HAND 0 .. 3 counted in a VILLAGE a people of side 0 and b of side 1 (0 .. 999 each)". */
    private static void countsOfEachHandAndNumber() {
        AwardLine x = new AwardLine();
        for (int hand = 0; hand <= 3; hand++) {
            Check.due("hand " + hand, x.count(hand, hand, 999, 0), hand);
            Check.due("999", x.span(hand, 0, 0, 0), 999);
            Check.due("0", x.span(hand, 1, 0, 1), 0);
        }
        int[] far = {Integer.MIN_VALUE, Integer.MAX_VALUE, -1};
        for (int no : far) {
            Check.due("hand " + no, x.count(no, 0, 1, 1), -1);
            Check.due("ones " + no, x.count(0, 0, no, 1), -1);
            Check.due("others " + no, x.count(0, 0, 1, no), -1);
        }
        Check.due("hand 4", x.count(4, 0, 1, 1), -1);
        Check.due("ones 1000", x.count(0, 0, 1000, 1), -1);
        Check.due("others 1000", x.count(0, 0, 1, 1000), -1);
        Check.due("notes", x.counted(2), 4);
    }

    /** "A HAND ERRS by e of 100 (0 .. 50; 0 at first)". */
    private static void handsErrBy0To50() {
        AwardLine x = new AwardLine();
        for (int hand = 0; hand <= 3; hand++) {
            x.count(hand, hand, 100, 100);
            Check.due("hand " + hand + " at first", x.span(hand, 0, 0, 1), 100);
        }
        for (int e = 0; e <= 50; e++) {
            Check.due("errs by " + e, x.errs(3, e), true);
            Check.due("least", x.span(3, 0, 0, 0), 100 - e);
            Check.due("greatest", x.span(3, 1, 0, 1), 100 + e);
        }
        for (int no : new int[] {-1, 51, 100, 101, Integer.MIN_VALUE, Integer.MAX_VALUE}) {
            Check.due("errs by " + no, x.errs(3, no), false);
            Check.due("hand " + (no < 51 ? no : 4), x.errs(no < 51 ? no : 4, 10), false);
        }
        Check.due("it errs by 50 still", x.span(3, 0, 0, 0), 50);
        Check.due("another doesn't err", x.span(2, 0, 0, 0), 100);
    }

    /** "from a times (100 less e) by 100, down, to a times (100 and e) by 100, up", and "likewise of b". */
    private static void sharesGoDownAndUp() {
        // counted, error, least, greatest: whole shares, and shares a hundredth beside a whole one
        int[][] rows = {{0, 0, 0, 0}, {0, 50, 0, 0}, {1, 0, 1, 1}, {1, 1, 0, 2}, {1, 50, 0, 2}, {2, 50, 1, 3},
            {3, 33, 2, 4}, {50, 2, 49, 51}, {99, 1, 98, 100}, {100, 1, 99, 101}, {101, 1, 99, 103},
            {200, 50, 100, 300}, {998, 50, 499, 1497}, {999, 0, 999, 999}, {999, 1, 989, 1009}, {999, 50, 499, 1499}};
        for (int[] row : rows) {
            AwardLine x = new AwardLine();
            x.errs(1, row[1]);
            x.count(1, 0, row[0], 0);
            x.count(1, 1, 0, row[0]);
            String what = row[0] + " by " + row[1] + " of 100";
            Check.due("least ones of " + what, x.span(0, 0, 0, 0), row[2]);
            Check.due("most ones of " + what, x.span(0, 0, 0, 1), row[3]);
            Check.due("least others of " + what, x.span(1, 1, 0, 0), row[2]);
            Check.due("most others of " + what, x.span(1, 1, 0, 1), row[3]);
        }
    }

    /** "0 .. 999 without any": before there is one, and if all are struck. */
    private static void spansOfNoCounts() {
        AwardLine x = new AwardLine();
        x.errs(0, 50);
        x.count(0, 1, 5, 5);
        Check.due("least", x.span(0, 0, 0, 0), 0);
        Check.due("greatest", x.span(0, 1, 0, 1), 999);
        x.count(0, 0, 5, 5);
        x.strike(1);
        Check.due("struck: least", x.span(0, 0, 0, 0), 0);
        Check.due("struck: greatest", x.span(0, 1, 0, 1), 999);
        Check.due("struck: people", x.span(0, 1, 0, 2), 499);
    }

    /** "what all its COUNTS that are KNOWN let .. QUARREL, if nothing": one number is something. */
    private static void spansMeetInOneNumber() {
        AwardLine x = new AwardLine();
        x.errs(1, 10);
        x.count(0, 0, 10, 0);
        // 8.1 down to 9.9 up
        x.count(1, 0, 9, 0);
        Check.due("8 .. 10 and 10: least", x.span(0, 0, 0, 0), 10);
        Check.due("8 .. 10 and 10: greatest", x.span(0, 0, 0, 1), 10);
        Check.due("8 .. 10 and 10: people", x.span(0, 0, 0, 2), 10);
        // 10.8 down to 13.2 up
        x.count(1, 0, 12, 0);
        Check.due("10 .. 14 too", x.span(0, 0, 0, 0), 10);
        x.days(1);
        // 7.2 down to 8.8 up
        x.count(1, 0, 8, 0);
        Check.due("7 .. 9 too: least", x.span(0, 0, 1, 0), -2);
        Check.due("7 .. 9 too: greatest", x.span(0, 0, 1, 1), -2);
        Check.due("7 .. 9 too: people", x.span(0, 0, 1, 2), 0);
        Check.due("of the other side nobody quarrels", x.span(0, 1, 1, 0), 0);
        Check.due("nor the day before", x.span(0, 0, 0, 0), 10);
    }

    /** "the middle of the SPAN (half of both ends together, down; with a QUARREL 0)". */
    private static void peopleAreTheMiddle() {
        AwardLine x = new AwardLine();
        Check.due("of 0 .. 999", x.span(0, 0, 0, 2), 499);
        x.errs(1, 10);
        x.errs(2, 33);
        x.count(1, 0, 15, 15);
        Check.due("of 13 .. 17", x.span(0, 0, 0, 2), 15);
        x.count(2, 0, 12, 15);
        Check.due("of 13 .. 16", x.span(0, 0, 0, 2), 14);
        x.errs(3, 50);
        x.count(3, 1, 999, 1);
        Check.due("of 499 .. 1499", x.span(1, 0, 0, 2), 999);
        Check.due("of 0 .. 2", x.span(1, 1, 0, 2), 1);
        x.count(0, 1, 0, 0);
        Check.due("with a quarrel", x.span(1, 0, 0, 2), 0);
        Check.due("of 0 .. 0", x.span(1, 1, 0, 2), 0);
    }

    /** "CANALS, at most 6 .. at most 5 more that DRINK": six with five each. */
    private static void canalsAreAtMost6() {
        AwardLine x = new AwardLine();
        for (int canal = 0; canal < 6; canal++) {
            Check.due("canal " + canal, x.canal(8 - canal), canal);
        }
        Check.due("a seventh", x.canal(0), -1);
        Check.due("canals", x.counted(3), 6);
        Check.due("of a seventh nobody drinks", x.drinks(6, 0), -1);
        for (int canal = 0; canal < 6; canal++) {
            int many = 0;
            for (int v = 0; v < 9; v++) {
                int due = v == 8 - canal || many == 5 ? -1 : ++many;
                Check.due(v + " drinks of " + canal, x.drinks(canal, v), due);
            }
        }
    }

    /** "a row of unlike VILLAGES, the first one its HEAD": unlike in one canal, not among all. */
    private static void canalsAreOfUnlikeVillages() {
        AwardLine x = new AwardLine();
        x.canal(4);
        x.canal(4);
        Check.due("the head", x.drinks(0, 4), -1);
        Check.due("a village", x.drinks(0, 0), 1);
        Check.due("the same again", x.drinks(0, 0), -1);
        Check.due("of the other canal", x.drinks(1, 0), 1);
        Check.due("another", x.drinks(0, 8), 2);
        Check.due("the first one again", x.drinks(0, 0), -1);
        Check.due("cut once for each canal", x.does(1, 0, 3), 2);
        Check.due("cut of both", x.does(16, 0, 3), 3);
    }
}
