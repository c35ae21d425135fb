/**
 * The edges that part 3 of the document's Terms names, sentence by sentence in its order: lines, drafts, what a
 * line does, the best one, weights. Each method quotes the words that it holds the class to.
 */
public final class EdgesLineTest {
    /** Five by five, each second village: as many pieces as can be. */
    private static final int CHEQUERED = 0b1010101010101010101010101;

    public static void main(String[] args) {
        linesAreBitsOfSide0();
        draftsAreAtMost12();
        draftsAreDrawnOnToday();
        wrongAreThoseOfTheOtherSide();
        aSideWithoutVillagesHasNoPiece();
        piecesAreJoinedBesideAlone();
        cutIsCountedForEachCanal();
        severedArePairsWithRails();
        desecratedAreShrinesOnTheOtherSide();
        harmIsWeighed();
        harmOfTheWorstLine();
        bestHasOnePieceOfEachSideAtMost();
        bestMayLeaveASideEmpty();
        bestOfSeveralHasTheLeastBits();
        bestIsSpentAbove16();
        weightsAreAbove0();
        weightsAreOf0To9();
        weightsOfSeveralTheLeast();
        weightsCountThoseBeside();
        Check.end();
    }

    private static AwardLine land(int w, int h, int... people) {
        AwardLine x = new AwardLine();
        x.land(w, h);
        for (int v = 0; v < w * h; v++) {
            int at = 2 * v % people.length;
            x.count(0, v, people[at], people[at + 1]);
        }
        return x;
    }

    /** "LINES are told as bits of the VILLAGES of side 0": none of them, the first, the last, all. */
    private static void linesAreBitsOfSide0() {
        AwardLine x = land(2, 2, 1, 10, 2, 20, 4, 40, 8, 80);
        Check.due("none", x.does(0, 0, 0), 15);
        Check.due("the first", x.does(1, 0, 0), 14 + 10);
        Check.due("the last", x.does(8, 0, 0), 7 + 80);
        Check.due("all", x.does(15, 0, 0), 150);
        Check.due("one more", x.does(16, 0, 0), -1);
    }

    /** "DRAFTS, at most 12, numbered from 0 on": in each land anew; two may be alike. */
    private static void draftsAreAtMost12() {
        AwardLine x = new AwardLine();
        for (int turn = 0; turn < 2; turn++) {
            for (int i = 0; i < 12; i++) {
                Check.due("draft " + i, x.draft(3), i);
            }
            Check.due("a thirteenth", x.draft(3), -1);
            Check.due("drafts", x.counted(4), 12);
            Check.due("the last one", Check.looked(x, 11, 0), 3);
            Check.due("the one behind it", Check.looked(x, 12, 0), -101);
            x.land(2, 2);
            Check.due("no draft is left", x.counted(4), 0);
            Check.due("none to look at", Check.looked(x, 0, 0), -101);
        }
    }

    /** "a LINE, drawn on TODAY". */
    private static void draftsAreDrawnOnToday() {
        AwardLine x = new AwardLine();
        x.draft(0);
        x.days(999);
        x.draft(511);
        Check.due("the first line", Check.looked(x, 0, 0), 0);
        Check.due("the first day", Check.looked(x, 0, 1), 0);
        Check.due("the last line", Check.looked(x, 1, 0), 511);
        Check.due("the last day", Check.looked(x, 1, 1), 999);
    }

    /** "WRONG: PEOPLE of side 1 in VILLAGES of side 0 and the other way round": a QUARREL has nobody. */
    private static void wrongAreThoseOfTheOtherSide() {
        AwardLine x = land(5, 5, 999, 0);
        Check.due("all ones on side 1", x.does(0, 0, 0), 25 * 999);
        Check.due("all ones on side 0", x.does((1 << 25) - 1, 0, 0), 0);
        x.count(1, 24, 998, 0);
        Check.due("nobody in the quarrel", x.does(0, 0, 0), 24 * 999);
        AwardLine y = new AwardLine();
        Check.due("without counts", y.does(0, 0, 0), 9 * 499);
        Check.due("without counts, the other side", y.does(511, 0, 0), 9 * 499);
    }

    private static void pieces(AwardLine x, int line, int ones, int others) {
        Check.due("pieces of side 0 of " + line, x.does(line, 0, 1), ones);
        Check.due("pieces of side 1 of " + line, x.does(line, 0, 2), others);
    }

    /** "PIECES of a side: its VILLAGES, joined": of no villages no piece, of all one. */
    private static void aSideWithoutVillagesHasNoPiece() {
        for (int w = 2; w <= 5; w++) {
            for (int h = 2; h <= 5; h++) {
                AwardLine x = new AwardLine();
                x.land(w, h);
                pieces(x, 0, 0, 1);
                pieces(x, (1 << w * h) - 1, 1, 0);
                pieces(x, 1, 1, 1);
                pieces(x, 1 << w * h - 1, 1, 1);
            }
        }
    }

    /** "joined as they are BESIDE": not over corners, not round the end of a row, however long the way is. */
    private static void piecesAreJoinedBesideAlone() {
        AwardLine x = new AwardLine();
        x.land(5, 5);
        pieces(x, CHEQUERED, 13, 12);
        pieces(x, 1 << 4 | 1 << 5, 2, 1);
        pieces(x, 1 << 9 | 1 << 10, 2, 1);
        // a snake through five rows: 0 .. 4, 9, 14 .. 10, 15, 20 .. 24
        int snake = 0b11111 | 1 << 9 | 0b11111 << 10 | 1 << 15 | 0b11111 << 20;
        pieces(x, snake, 1, 2);
        pieces(x, snake & ~(1 << 9), 2, 2);
        // a spiral from a corner to the middle
        int spiral = 0b11111 | 1 << 9 | 1 << 14 | 1 << 19 | 0b11111 << 20 | 1 << 15 | 1 << 10 | 1 << 11 | 1 << 12;
        pieces(x, spiral, 1, 1);
        // a ring with one village inside its hole of side 1
        pieces(x, 0b1111110001101011000111111, 2, 1);
    }

    /** "CUT: how many VILLAGES that DRINK are on another side than their HEAD (for each CANAL)". */
    private static void cutIsCountedForEachCanal() {
        AwardLine x = new AwardLine();
        x.canal(0);
        Check.due("nobody drinks", x.does(1, 0, 3), 0);
        x.drinks(0, 8);
        Check.due("with its head on side 0", x.does(0b100000001, 0, 3), 0);
        Check.due("with its head on side 1", x.does(0, 0, 3), 0);
        Check.due("the head alone on side 0", x.does(1, 0, 3), 1);
        Check.due("the other alone on side 0", x.does(256, 0, 3), 1);
        x.canal(0);
        x.drinks(1, 8);
        Check.due("it drinks of two", x.does(256, 0, 3), 2);
        x.canal(8);
        x.drinks(2, 0);
        Check.due("and they of it", x.does(256, 0, 3), 3);
        x.drinks(2, 1);
        Check.due("those who drink may lie apart", x.does(0b100000011, 0, 3), 0);
        Check.due("two that drink of one, apart from each other", x.does(0b100000001, 0, 3), 1);
    }

    /** "SEVERED: pairs of VILLAGES BESIDE with RAILS on unlike sides": both have one, each pair counts once. */
    private static void severedArePairsWithRails() {
        AwardLine x = new AwardLine();
        x.village(4, 0, -1, true);
        Check.due("one has a rail", x.does(16, 0, 4), 0);
        int[] beside = {1, 3, 5, 7};
        for (int i = 0; i < 4; i++) {
            x.village(beside[i], 0, -1, true);
            Check.due("with " + (i + 1) + " beside", x.does(16, 0, 4), i + 1);
            Check.due("the other way round", x.does(511 - 16, 0, 4), i + 1);
        }
        x.village(0, 0, -1, true);
        Check.due("over a corner", x.does(16, 0, 4), 4);
        Check.due("on one side", x.does(511, 0, 4), 0);
        AwardLine y = new AwardLine();
        y.village(2, 0, -1, true);
        y.village(3, 0, -1, true);
        Check.due("round the end of a row", y.does(4, 0, 4), 0);
    }

    /** "DESECRATED: SHRINES on the other side". */
    private static void desecratedAreShrinesOnTheOtherSide() {
        AwardLine x = new AwardLine();
        x.land(5, 5);
        for (int v = 0; v < 25; v++) {
            x.village(v, 0, 0, false);
        }
        int all = (1 << 25) - 1;
        Check.due("all on side 1", x.does(0, 0, 5), 25);
        Check.due("all on side 0", x.does(all, 0, 5), 0);
        x.village(24, 0, 1, false);
        Check.due("one of side 1 on side 0", x.does(all, 0, 5), 1);
        Check.due("one of side 1 on side 1", x.does(0, 0, 5), 24);
        x.village(24, 0, -1, false);
        Check.due("none", x.does(all, 0, 5), 0);
    }

    /** "HARM: WRONG, and shrine times DESECRATED, rail times SEVERED, water times CUT": at first all weigh 0. */
    private static void harmIsWeighed() {
        AwardLine x = land(2, 2, 1, 0);
        x.village(0, 0, 1, true);
        x.village(1, 0, 1, true);
        x.village(2, 0, 1, true);
        x.canal(0);
        x.drinks(0, 1);
        x.drinks(0, 2);
        x.drinks(0, 3);
        // line 1: 3 wrong, 1 shrine, 2 rails, 3 that drink
        Check.due("without terms", x.does(1, 0, 6), 3);
        Check.terms(x, "weigh shrine 0;weigh rail 0;weigh water 0;");
        Check.due("weighing 0", x.does(1, 0, 6), 3);
        Check.terms(x, "weigh shrine 100;");
        Check.due("shrine", x.does(1, 0, 6), 103);
        Check.terms(x, "weigh rail 100;");
        Check.due("rail", x.does(1, 0, 6), 203);
        Check.terms(x, "weigh water 100;");
        Check.due("water", x.does(1, 0, 6), 303);
        Check.terms(x, "weigh water 999;weigh rail 999;weigh shrine 999;");
        Check.due("all, at most", x.does(1, 0, 6), 3 + 6 * 999);
    }

    /** HARM where each part of it is as great as can be. */
    private static void harmOfTheWorstLine() {
        AwardLine x = land(5, 5, 0, 999, 999, 0);
        for (int v = 0; v < 25; v++) {
            x.village(v, 0, v % 2 == 0 ? 1 : 0, true);
        }
        for (int canal = 0; canal < 6; canal++) {
            x.canal(2 * canal);
            for (int v = 1; v < 10; v += 2) {
                x.drinks(canal, v);
            }
        }
        Check.terms(x, "weigh shrine 999;weigh rail 999;weigh water 999;");
        int[] due = {25 * 999, 13, 12, 30, 40, 25, 999 * (25 + 25 + 40 + 30)};
        for (int what = 0; what < 7; what++) {
            Check.due("does of the worst line, " + what, x.does(CHEQUERED, 0, what), due[what]);
        }
        Check.due("of its opposite", x.does((1 << 25) - 1 - CHEQUERED, 0, 6), 999 * 70);
        Check.due("of all on side 1", x.does(0, 0, 6), 999 * 24);
    }

    private static void best(String what, AwardLine x, int line, int harm) {
        Check.due("best line: " + what, x.best(0, 0), line);
        Check.due("its harm: " + what, x.best(0, 1), harm);
    }

    /** "the LINE of least HARM with one PIECE of each side at most". */
    private static void bestHasOnePieceOfEachSideAtMost() {
        // 0 and 3 would be side 0, but meet over a corner alone
        best("two corners", land(2, 2, 10, 0, 0, 10, 0, 10, 10, 0), 1, 10);
        // the middle column of side 0 parts the others in two
        best("a column between", land(3, 3, 0, 10, 10, 0, 0, 10, 0, 10, 10, 0, 0, 10, 0, 10, 10, 0, 0, 10), 18, 10);
        // the outer columns of side 0 are parted by the middle one
        best("a column round", land(3, 3, 10, 0, 0, 10, 10, 0, 10, 0, 0, 10, 10, 0, 10, 0, 0, 10, 10, 0),
                0b101101111, 10);
        // a ring of each side round one of the other
        best("a ring of side 0", land(3, 3, 9, 0, 9, 0, 9, 0, 9, 0, 0, 9, 9, 0, 9, 0, 9, 0, 9, 0), 511 - 16, 0);
        best("a ring of side 1", land(3, 3, 0, 9, 0, 9, 0, 9, 0, 9, 9, 0, 0, 9, 0, 9, 0, 9, 0, 9), 16, 0);
    }

    /** "at most": a side may have no piece at all. */
    private static void bestMayLeaveASideEmpty() {
        best("all on side 0", land(2, 2, 10, 0), 15, 0);
        best("all on side 1", land(2, 2, 0, 10), 0, 0);
        best("all on side 0 of 16", land(4, 4, 10, 0), 65535, 0);
        best("all on side 1 of 16", land(4, 4, 0, 10), 0, 0);
    }

    /** "of several the least bits". */
    private static void bestOfSeveralHasTheLeastBits() {
        best("nobody anywhere", land(2, 2, 0, 0), 0, 0);
        best("like ones everywhere", land(4, 4, 7, 7), 0, 16 * 7);
        best("0 has to be in it", land(2, 2, 1, 0, 0, 0, 0, 0, 0, 0), 1, 0);
        best("3 has to be in it", land(2, 2, 0, 0, 0, 0, 0, 0, 1, 0), 8, 0);
        // 0 and 3 have to be in it, joined over 1 or 2
        best("joined by the lesser one", land(2, 2, 9, 0, 0, 0, 0, 0, 9, 0), 11, 0);
        best("3 mustn't be in it", land(2, 2, 9, 0, 0, 0, 0, 0, 0, 9), 1, 0);
    }

    /** "With more than 16 VILLAGES it is SPENT". */
    private static void bestIsSpentAbove16() {
        for (int w = 2; w <= 5; w++) {
            for (int h = 2; h <= 5; h++) {
                AwardLine x = new AwardLine();
                x.land(w, h);
                boolean spent = w * h > 16;
                Check.due("best line of " + w + " by " + h, x.best(0, 0), spent ? -1 : 0);
                Check.due("its harm", x.best(0, 1), spent ? -1 : w * h * 499);
            }
        }
    }

    /** "just its VILLAGES have .. above 0": 0 isn't above 0. */
    private static void weightsAreAbove0() {
        AwardLine x = land(2, 2, 1, 1, 1, 0, 5, 5, 0, 0);
        Check.due("one more than the others", x.weights(2, 0), 100);
        Check.due("as many as the others", x.weights(1, 0), -1);
        Check.due("as many as the others, with one more", x.weights(3, 0), -1);
        // village 0 has 9, then 10 too few; a shrine of side 0 gives 10 for each b
        for (int few = 9; few <= 10; few++) {
            AwardLine y = land(2, 2, 0, few, 1, 0, 0, 0, 0, 0);
            y.village(0, 0, 0, false);
            Check.due("a shrine for " + few, y.weights(3, 0), few == 9 ? 110 : 120);
        }
        // village 0 has 10, then 11 more; a shrine of side 1 takes 10 for each b, one of side 0 keeps 1 in it
        for (int more = 10; more <= 11; more++) {
            AwardLine y = land(2, 2, more, 0, 0, 1, 0, 0, 0, 0);
            y.village(0, 0, 1, false);
            y.village(1, 0, 0, false);
            Check.due("a shrine of side 1 against " + more, y.weights(3, 0), more == 10 ? 210 : 110);
        }
    }

    /** "a, b, c, 0 .. 9 each": 9 of each is enough here, 10 would be needed there. */
    private static void weightsAreOf0To9() {
        for (int few = 88; few <= 91; few++) {
            AwardLine x = land(2, 2, 0, few, 1, 0, 0, 0, 0, 0);
            x.village(0, 0, 0, false);
            Check.due("b for " + few, x.weights(3, 0), few < 90 ? 190 : -1);
        }
        for (int few = 178; few <= 181; few++) {
            // 0 has two of side 0 beside, so has 3, which isn't of it; 1 and 2 have one of each
            AwardLine x = land(2, 2, 0, few, 1, 0, 1, 0, 0, 180);
            Check.due("c for " + few, x.weights(7, 0), few < 180 ? 109 : -1);
        }
        // 0 has one more, less 10 for its shrine: a 11 for b 1; two more: a 6
        for (int more = 1; more <= 2; more++) {
            AwardLine x = land(2, 2, more, 0, 0, 0, 0, 0, 0, 0);
            x.village(0, 0, 1, false);
            x.village(1, 0, 0, false);
            Check.due("a for " + more, x.weights(3, 0), more == 1 ? -1 : 610);
        }
    }

    /** "the least a, of several the least b, then c; or none". */
    private static void weightsOfSeveralTheLeast() {
        Check.due("nothing is above 0 by nothing", land(2, 2, 9, 0).weights(0, 0), 0);
        // 1, 1, 0 would do as well as 1, 0, 1
        AwardLine x = land(2, 2, 0, 5, 1, 0, 1, 0, 0, 100);
        x.village(0, 0, 0, false);
        Check.due("b before c", x.weights(7, 0), 101);
        // 1, 0, 0 would do as well as 0, 1, 0
        AwardLine y = land(2, 2, 5, 0, 0, 5, 0, 5, 0, 5);
        y.village(0, 0, 0, false);
        Check.due("a before b", y.weights(1, 0), 10);
        // 1, 0, 0 and 0, 1, 0 would do as well as 0, 0, 1
        AwardLine z = land(2, 2, 5, 0);
        for (int v = 0; v < 4; v++) {
            z.village(v, 0, 0, false);
        }
        Check.due("a and b before c", z.weights(15, 0), 1);
        Check.due("or none", land(2, 2, 0, 5).weights(9, 0), -1);
    }

    /** "10 c times (VILLAGES BESIDE that are of side 0 in it less those of side 1)": two, three or four of them. */
    private static void weightsCountThoseBeside() {
        Check.due("all of 25", land(5, 5, 0, 0).weights((1 << 25) - 1, 0), 1);
        // one village is left out, with two, three, four of side 0 beside it; 8 has one too few, so that c is 1
        int[] out = {0, 1, 4};
        for (int many = 2; many <= 4; many++) {
            for (int few = 10 * many - 1; few <= 10 * many; few++) {
                int left = out[many - 2];
                AwardLine x = land(3, 3, 100, 0);
                x.strike(left);
                x.strike(8);
                x.count(0, left, 0, few);
                x.count(0, 8, 0, 1);
                int due = few == 10 * many ? 101 : 201;
                Check.due(many + " beside against " + few, x.weights(511 - (1 << left), 0), due);
            }
        }
        // a row of 5 above one of side 1: its ends have one of each, 1 to 3 have two and one, those below one and two
        AwardLine x = land(5, 2, 0, 0);
        Check.due("ends have one of each", x.weights(0b11111, 0), -1);
        Check.due("without its ends", x.weights(0b01110, 0), -1);
        x.village(0, 0, 0, false);
        x.village(4, 0, 0, false);
        Check.due("with shrines at the ends", x.weights(0b11111, 0), 11);
    }
}
