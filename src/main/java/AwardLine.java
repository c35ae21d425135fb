import java.util.Arrays;
import java.util.NoSuchElementException;

/**
 * A line drawn through a land: villages counted by hands that err, terms that give a line, what a
 * line does, who can have known a draft of it, and the people who go when it is told.
 *
 * <p>All rows are made once, in the constructors, and used again by every call.
 */
public final class AwardLine {
    public static final int NONE = -1;

    private static final int TOO_FEW_BYTES = -2;
    private static final int QUARREL = -2;
    private static final int MOST_DAY = 999;
    private static final int MOST_COUNTED = 999;
    private static final int MOST_ERROR = 50;
    private static final int MOST_VILLAGES = 25;
    private static final int MOST_DISTRICTS = 6;
    private static final int MOST_HANDS = 4;
    private static final int MOST_PERSONS = 8;
    private static final int MOST_DRAFTS = 12;
    private static final int MOST_CANDIDATES = 8;
    private static final int MOST_FLIGHT = 20;
    private static final int MOST_KNOTS = 64;
    /** Above every harm and every number of people. */
    private static final int BEYOND_ALL = 1000000000;

    private int today;
    private final Reader reader;
    private Terms terms;
    private Terms spare;
    private final Land land;
    private final Notes notes;
    private final Census census;
    private final Drafts drafts;
    private final Judge judge;
    private final Toll toll;
    private final Rumour rumour;
    private final Exodus exodus;

    public AwardLine() {
        Land ground = new Land();
        Notes told = new Notes();
        Census people = new Census(ground, told);
        today = 0;
        reader = new Reader();
        terms = new Terms();
        spare = new Terms();
        land = ground;
        notes = told;
        census = people;
        drafts = new Drafts();
        judge = new Judge(ground, people);
        toll = new Toll(ground, people);
        rumour = new Rumour(told);
        exodus = new Exodus(ground, people);
    }

    public int feed(int a, int b, int c, int d, int e) {
        if (!reader.hasRoom()) {
            return NONE;
        }
        reader.store(a);
        reader.store(b);
        reader.store(c);
        reader.store(d);
        reader.store(e);
        return reader.held;
    }

    public int terms(int n) {
        if (n < 0 || n > reader.held) {
            return TOO_FEW_BYTES;
        }
        int lines = reader.read(n, spare);
        if (lines == NONE) {
            return NONE;
        }
        Terms old = terms;
        terms = spare;
        spare = old;
        return lines;
    }

    public int fault(int what) {
        switch (what) {
            case 0:
                return reader.fault;
            case 1:
                return reader.faultPlace;
            default:
                return NONE;
        }
    }

    public boolean land(int w, int h) {
        if (w < 2 || w > 5 || h < 2 || h > 5) {
            return false;
        }
        land.lay(w, h);
        notes.held = 0;
        drafts.held = 0;
        exodus.candidates = 0;
        return true;
    }

    public int days(int n) {
        if (n < 0 || n > MOST_DAY - today) {
            return NONE;
        }
        today += n;
        return today;
    }

    public boolean village(int village, int district, int shrine, boolean rail) {
        if (!land.has(village) || district < 0 || district >= MOST_DISTRICTS) {
            return false;
        }
        if (shrine != NONE && !isSide(shrine)) {
            return false;
        }
        land.describe(village, district, shrine, rail);
        return true;
    }

    public boolean errs(int hand, int of100) {
        if (!isHand(hand) || of100 < 0 || of100 > MOST_ERROR) {
            return false;
        }
        census.error[hand] = of100;
        return true;
    }

    public int count(int hand, int village, int ones, int others) {
        if (!isHand(hand) || !land.has(village) || !isCount(ones) || !isCount(others)) {
            return NONE;
        }
        return notes.add(Notes.COUNT, hand, village, ones, others, today);
    }

    public int note(int what, int a, int b, int day) {
        if (day < 0 || day > today || !isPerson(b)) {
            return NONE;
        }
        boolean good;
        switch (what) {
            case Notes.SIGHT:
                good = drafts.has(a) && day >= drafts.day[a];
                break;
            case Notes.MEETING:
                good = isPerson(a) && a != b;
                break;
            case Notes.ACT:
                good = drafts.has(a);
                break;
            default:
                good = false;
        }
        return good ? notes.add(what, a, b, day, 0, today) : NONE;
    }

    public int strike(int note) {
        if (!notes.has(note)) {
            return NONE;
        }
        return notes.add(Notes.STRIKE, note, 0, 0, 0, today);
    }

    public int span(int village, int side, int known, int what) {
        if (!land.has(village) || !isSide(side) || !isDay(known) || what < 0 || what > 2) {
            return NONE;
        }
        census.take(known);
        if (what == 2) {
            return census.people[side][village];
        }
        int least = census.least[side][village];
        int greatest = census.greatest[side][village];
        if (least > greatest) {
            return QUARREL;
        }
        return what == 0 ? least : greatest;
    }

    public int canal(int head) {
        return land.has(head) ? land.dig(head) : NONE;
    }

    public int drinks(int canal, int village) {
        if (canal < 0 || canal >= land.canals || !land.has(village)) {
            return NONE;
        }
        return land.lead(canal, village);
    }

    public int given(int known) {
        if (!isDay(known)) {
            return NONE;
        }
        census.take(known);
        return judge.award(terms, terms.unit);
    }

    public int turned(int unit, int known) {
        if (unit < Terms.VILLAGE || unit > Terms.LAND || !isDay(known)) {
            return NONE;
        }
        census.take(known);
        return Integer.bitCount(judge.award(terms, unit) ^ judge.award(terms, terms.unit));
    }

    public int draft(int line) {
        return land.isLine(line) ? drafts.add(line, today) : NONE;
    }

    public int look(int draft, int what) throws IndexOutOfBoundsException, NoSuchElementException {
        if (!drafts.has(draft)) {
            throw new IndexOutOfBoundsException("no such draft");
        }
        switch (what) {
            case 0:
                return drafts.line[draft];
            case 1:
                return drafts.day[draft];
            default:
                throw new NoSuchElementException("no such what");
        }
    }

    public int does(int line, int known, int what) {
        if (!land.isLine(line) || !isDay(known)) {
            return NONE;
        }
        census.take(known);
        switch (what) {
            case 0:
                return toll.wrong(line);
            case 1:
                return land.pieces(line);
            case 2:
                return land.pieces(land.all & ~line);
            case 3:
                return land.cut(line);
            case 4:
                return land.severed(line);
            case 5:
                return land.desecrated(line);
            case 6:
                return toll.harm(line, terms);
            default:
                return NONE;
        }
    }

    public int best(int known, int what) {
        if (!isDay(known) || what < 0 || what > 1 || land.size > Toll.MOST_SEARCHED) {
            return NONE;
        }
        census.take(known);
        toll.search(terms);
        return what == 0 ? toll.bestLine : toll.bestHarm;
    }

    public int weights(int line, int known) {
        if (!land.isLine(line) || !isDay(known)) {
            return NONE;
        }
        census.take(known);
        return toll.weigh(line);
    }

    public int knows(int person, int draft, int known) {
        if (!isPerson(person) || !drafts.has(draft) || !isDay(known)) {
            return NONE;
        }
        notes.sift(known);
        rumour.spread(draft, NONE);
        return rumour.since[person] == Rumour.NEVER ? NONE : rumour.since[person];
    }

    public int explained(int note, int known) {
        if (!notes.has(note) || !isDay(known)) {
            return NONE;
        }
        notes.sift(known);
        if (!notes.isKnown(note, Notes.ACT)) {
            return NONE;
        }
        return rumour.explain(note);
    }

    public int through(int known) {
        if (!isDay(known)) {
            return NONE;
        }
        notes.sift(known);
        return rumour.carriers();
    }

    public int candidate(int village) {
        return land.has(village) ? exodus.addCandidate(village) : NONE;
    }

    public int flight(int line, int d, int guards, int known, int what) {
        if (!land.isLine(line) || d < 0 || d > MOST_FLIGHT || !isDay(known)) {
            return NONE;
        }
        if (what < 0 || what > 2) {
            return NONE;
        }
        census.take(known);
        exodus.agree(terms);
        int lost = exodus.tell(line, d, guards);
        switch (what) {
            case 0:
                return lost;
            case 1:
                return exodus.stillAstray();
            default:
                return exodus.fullest();
        }
    }

    public int guards(int m, int drafts, int d, int known, int what) {
        if (m < 0 || m > MOST_CANDIDATES || drafts <= 0 || drafts >= 1 << this.drafts.held) {
            return NONE;
        }
        if (d < 1 || d > MOST_FLIGHT || !isDay(known) || what < 0 || what > 1) {
            return NONE;
        }
        census.take(known);
        exodus.agree(terms);
        exodus.place(m, drafts, this.drafts, d);
        return what == 0 ? exodus.bestGuards : exodus.bestLost;
    }

    public int counted(int what) {
        switch (what) {
            case 0:
                return today;
            case 1:
                return land.size;
            case 2:
                return notes.held;
            case 3:
                return land.canals;
            case 4:
                return drafts.held;
            case 5:
                return exodus.candidates;
            case 6:
                return terms.knots;
            case 7:
                return terms.fear;
            case 8:
                return terms.lose;
            default:
                return NONE;
        }
    }

    private static boolean isDay(int day) {
        return day >= 0 && day <= MOST_DAY;
    }

    private static boolean isSide(int side) {
        return side == 0 || side == 1;
    }

    private static boolean isHand(int hand) {
        return hand >= 0 && hand < MOST_HANDS;
    }

    private static boolean isPerson(int person) {
        return person >= 0 && person < MOST_PERSONS;
    }

    private static boolean isCount(int people) {
        return people >= 0 && people <= MOST_COUNTED;
    }

    /** The least number among these bits, of which there is one at least. */
    private static int leastOf(int bits) {
        return Integer.bitCount((bits & -bits) - 1);
    }

    /** So many of 100, upwards. */
    private static int shareUp(int people, int of100) {
        return (people * of100 + 99) / 100;
    }

    /** The villages, what stands in them, and the canals. Sets of villages are bits. */
    private static final class Land {
        private static final int MOST_CANALS = 6;
        private static final int MOST_DRINKERS = 5;

        int size;
        int all;
        final int[] districts = new int[MOST_DISTRICTS];
        final int[] shrines = new int[2];
        int rails;
        int heads;
        int canals;
        private int wide;
        private int firstColumn;
        private int lastColumn;
        private final int[] headOf = new int[MOST_CANALS];
        private final int[] drinkers = new int[MOST_CANALS];

        Land() {
            lay(3, 3);
        }

        void lay(int w, int h) {
            wide = w;
            size = w * h;
            all = (1 << size) - 1;
            firstColumn = 0;
            for (int y = 0; y < h; y++) {
                firstColumn |= 1 << (y * w);
            }
            lastColumn = firstColumn << (w - 1);
            Arrays.fill(districts, 0);
            districts[0] = all;
            Arrays.fill(shrines, 0);
            rails = 0;
            heads = 0;
            canals = 0;
        }

        boolean has(int village) {
            return village >= 0 && village < size;
        }

        boolean isLine(int line) {
            return line >= 0 && line <= all;
        }

        void describe(int village, int district, int shrine, boolean rail) {
            int bit = 1 << village;
            for (int i = 0; i < MOST_DISTRICTS; i++) {
                districts[i] = i == district ? districts[i] | bit : districts[i] & ~bit;
            }
            for (int i = 0; i < 2; i++) {
                shrines[i] = i == shrine ? shrines[i] | bit : shrines[i] & ~bit;
            }
            rails = rail ? rails | bit : rails & ~bit;
        }

        int dig(int head) {
            if (canals >= MOST_CANALS) {
                return NONE;
            }
            headOf[canals] = head;
            drinkers[canals] = 0;
            heads |= 1 << head;
            canals++;
            return canals - 1;
        }

        int lead(int canal, int village) {
            int there = drinkers[canal] | 1 << headOf[canal];
            if ((there >> village & 1) != 0 || Integer.bitCount(drinkers[canal]) >= MOST_DRINKERS) {
                return NONE;
            }
            drinkers[canal] |= 1 << village;
            return Integer.bitCount(drinkers[canal]);
        }

        /** All villages beside one of these. */
        int beside(int villages) {
            int upDown = villages << wide | villages >>> wide;
            int right = (villages & ~lastColumn) << 1;
            int left = (villages & ~firstColumn) >>> 1;
            return (upDown | right | left) & all;
        }

        /** The piece of these villages that the least one of them lies in. */
        private int firstPiece(int villages) {
            int piece = villages & -villages;
            for (int i = 0; i < MOST_VILLAGES; i++) {
                int wider = piece | beside(piece) & villages;
                if (wider == piece) {
                    break;
                }
                piece = wider;
            }
            return piece;
        }

        int pieces(int villages) {
            int left = villages;
            int found = 0;
            for (int i = 0; i < MOST_VILLAGES && left != 0; i++) {
                left &= ~firstPiece(left);
                found++;
            }
            return found;
        }

        /** Whether some piece of these can't be joined with the rest of them, even over open ones. */
        boolean parted(int villages, int open) {
            int left = villages;
            for (int i = 0; i < MOST_VILLAGES && left != 0; i++) {
                int piece = firstPiece(left);
                if (piece != villages && (beside(piece) & open) == 0) {
                    return true;
                }
                left &= ~piece;
            }
            return false;
        }

        /** Pairs of a village that drinks and its head, the one among these, the other among those. */
        int pipes(int these, int those) {
            int found = 0;
            for (int i = 0; i < canals; i++) {
                int head = 1 << headOf[i];
                if ((head & these) != 0) {
                    found += Integer.bitCount(drinkers[i] & those);
                } else if ((head & those) != 0) {
                    found += Integer.bitCount(drinkers[i] & these);
                }
            }
            return found;
        }

        /** How many of these villages a rail joins with this one. */
        int tracks(int village, int those) {
            if ((rails >> village & 1) == 0) {
                return 0;
            }
            return Integer.bitCount(beside(1 << village) & those & rails);
        }

        int cut(int line) {
            return pipes(line, all & ~line);
        }

        int severed(int line) {
            int found = 0;
            for (int v = 0; v < size; v++) {
                if ((line >> v & 1) != 0) {
                    found += tracks(v, all & ~line);
                }
            }
            return found;
        }

        int desecrated(int line) {
            return Integer.bitCount(shrines[0] & ~line) + Integer.bitCount(shrines[1] & line);
        }
    }

    /** What was told, each on its day, and which of it is known on the day last sifted for. */
    private static final class Notes {
        static final int SIGHT = 0;
        static final int MEETING = 1;
        static final int ACT = 2;
        static final int COUNT = 3;
        static final int STRIKE = 4;
        private static final int MOST_NOTES = 80;

        int held;
        final int[] kind = new int[MOST_NOTES];
        /** The draft, the first person, the hand, or the note struck. */
        final int[] subject = new int[MOST_NOTES];
        /** The person, the second person, or the village. */
        final int[] object = new int[MOST_NOTES];
        /** The day, or the people of side 0. */
        final int[] third = new int[MOST_NOTES];
        /** The people of side 1. */
        final int[] fourth = new int[MOST_NOTES];
        private final int[] told = new int[MOST_NOTES];
        private final boolean[] known = new boolean[MOST_NOTES];

        boolean has(int note) {
            return note >= 0 && note < held;
        }

        int add(int what, int a, int b, int c, int d, int day) {
            if (held >= MOST_NOTES) {
                return NONE;
            }
            kind[held] = what;
            subject[held] = a;
            object[held] = b;
            third[held] = c;
            fourth[held] = d;
            told[held] = day;
            held++;
            return held - 1;
        }

        void sift(int day) {
            for (int i = 0; i < held; i++) {
                known[i] = told[i] <= day;
            }
            // From the last one on: a strike is always older than what strikes it.
            for (int i = held - 1; i >= 0; i--) {
                if (isKnown(i, STRIKE) && has(subject[i])) {
                    known[subject[i]] = false;
                }
            }
        }

        boolean isKnown(int note, int what) {
            return known[note] && kind[note] == what;
        }
    }

    /** The spans and the people of all villages, as known on the day last taken. */
    private static final class Census {
        /** Above all that a count lets. */
        private static final int NO_END = 1000000;

        final int[] error = new int[MOST_HANDS];
        final int[][] least = new int[2][MOST_VILLAGES];
        final int[][] greatest = new int[2][MOST_VILLAGES];
        final int[][] people = new int[2][MOST_VILLAGES];
        private final Land land;
        private final Notes notes;

        Census(Land land, Notes notes) {
            this.land = land;
            this.notes = notes;
        }

        void take(int day) {
            notes.sift(day);
            for (int side = 0; side < 2; side++) {
                Arrays.fill(least[side], 0);
                Arrays.fill(greatest[side], NO_END);
            }
            for (int i = 0; i < notes.held; i++) {
                if (notes.isKnown(i, Notes.COUNT) && land.has(notes.object[i])) {
                    int err = error[notes.subject[i]];
                    narrow(0, notes.object[i], notes.third[i], err);
                    narrow(1, notes.object[i], notes.fourth[i], err);
                }
            }
            for (int v = 0; v < land.size; v++) {
                close(0, v);
                close(1, v);
            }
        }

        private void narrow(int side, int village, int told, int err) {
            int low = told * (100 - err) / 100;
            int high = shareUp(told, 100 + err);
            least[side][village] = Math.max(least[side][village], low);
            greatest[side][village] = Math.min(greatest[side][village], high);
        }

        private void close(int side, int village) {
            if (greatest[side][village] == NO_END) {
                greatest[side][village] = MOST_COUNTED;
            }
            int low = least[side][village];
            int high = greatest[side][village];
            people[side][village] = low > high ? 0 : (low + high) / 2;
        }
    }

    /** Lines that were drawn, each on its day. */
    private static final class Drafts {
        int held;
        final int[] line = new int[MOST_DRAFTS];
        final int[] day = new int[MOST_DRAFTS];

        boolean has(int draft) {
            return draft >= 0 && draft < held;
        }

        int add(int bits, int drawn) {
            if (held >= MOST_DRAFTS) {
                return NONE;
            }
            line[held] = bits;
            day[held] = drawn;
            held++;
            return held - 1;
        }
    }

    /** What the terms say; the rule of 'first' as knots, each behind what it works on. */
    private static final class Terms {
        static final int VILLAGE = 0;
        static final int LAND = 2;
        static final int KINDS_WEIGHED = 3;

        int unit;
        int fear;
        int lose;
        /** By shrine, rail, water. */
        final int[] weight = new int[KINDS_WEIGHED];
        int knots;
        final int[] knot = new int[MOST_KNOTS];
        final int[] number = new int[MOST_KNOTS];

        Terms() {
            clear();
        }

        void clear() {
            unit = VILLAGE;
            fear = 10;
            lose = 5;
            knots = 0;
            Arrays.fill(weight, 0);
        }
    }

    /** The kinds of tokens; the words come first, in the order of WORDS. */
    private static final class Token {
        static final String WORDS = "unit first fear lose weigh village district land shrine rail water ones others shrines rails heads villages not and or ";
        static final int UNIT = 0;
        static final int FIRST = 1;
        static final int FEAR = 2;
        static final int LOSE = 3;
        static final int WEIGH = 4;
        static final int VILLAGE = 5;
        static final int LAND = 7;
        static final int SHRINE = 8;
        static final int WATER = 10;
        static final int ONES = 11;
        static final int OTHERS = 12;
        static final int SHRINES = 13;
        static final int RAILS = 14;
        static final int HEADS = 15;
        static final int VILLAGES = 16;
        static final int NOT = 17;
        static final int AND = 18;
        static final int OR = 19;
        static final int NUMBER = 20;
        static final int PLUS = 21;
        static final int MINUS = 22;
        static final int TIMES = 23;
        static final int OVER = 24;
        static final int LESS = 25;
        static final int AT_MOST = 26;
        static final int EQUAL = 27;
        static final int UNLIKE = 28;
        static final int AT_LEAST = 29;
        static final int MORE = 30;
        static final int OPEN = 31;
        static final int CLOSE = 32;
        static final int SEMICOLON = 33;
        static final int END = 34;
        static final int BAD = 35;
    }

    /** The tape, and what reads terms from it. */
    private static final class Reader {
        private static final int MOST_BYTES = 400;
        private static final int BYTES_FED = 20;
        private static final int MOST_OPEN = 8;
        private static final int MOST_NUMBER = 9999;
        private static final int MOST_WEIGHT = 999;
        private static final int MOST_OF_100 = 100;
        private static final int CANT_STAND = 1;
        private static final int TOO_MUCH = 2;
        private static final int TOLD_ALREADY = 3;
        /** unit, first, fear, lose, and weigh for each kind that is weighed. */
        private static final int MOST_LINES = 7;
        private static final int RANK_OF_OR = 0;
        private static final int RANK_OF_AND = 1;
        private static final int RANK_OF_NOT = 2;
        private static final int RANK_OF_COMPARISON = 3;
        private static final int RANK_OF_SUM = 4;
        private static final int RANK_OF_PRODUCT = 5;
        private static final int RANK_OF_PART = 6;

        int held;
        int fault;
        int faultPlace = NONE;
        private final int[] tape = new int[MOST_BYTES];
        private int length;
        private int at;
        private int token;
        private int place;
        private int number;
        private int amountRead;
        private int knotsRead;
        private int linesTold;
        private Terms into;

        boolean hasRoom() {
            return held + BYTES_FED <= MOST_BYTES;
        }

        void store(int four) {
            for (int shift = 24; shift >= 0 && held < MOST_BYTES; shift -= 8) {
                tape[held] = four >>> shift & 255;
                held++;
            }
        }

        /** Reads the first bytes into these terms: how many lines, or NONE with a fault. */
        int read(int bytes, Terms target) {
            into = target;
            into.clear();
            length = Math.min(bytes, held);
            at = 0;
            fault = 0;
            faultPlace = NONE;
            knotsRead = 0;
            linesTold = 0;
            held = 0;
            advance();
            int lines = 0;
            while (lines <= MOST_LINES && token != Token.END) {
                if (!lineOfTerms() || !pass(Token.SEMICOLON)) {
                    return NONE;
                }
                lines++;
            }
            return lines;
        }

        private boolean refuse(int why) {
            fault = why;
            faultPlace = place;
            return false;
        }

        private boolean pass(int wanted) {
            if (token != wanted) {
                return refuse(CANT_STAND);
            }
            advance();
            return true;
        }

        /** Marks the line of this token as told; a token of a line's own kind each. */
        private boolean once() {
            int bit = 1 << token;
            if ((linesTold & bit) != 0) {
                return refuse(TOLD_ALREADY);
            }
            linesTold |= bit;
            advance();
            return true;
        }

        private boolean lineOfTerms() {
            switch (token) {
                case Token.UNIT:
                    return once() && unitLine();
                case Token.FIRST:
                    return once() && row(RANK_OF_OR, 0);
                case Token.FEAR:
                    return once() && fearLine();
                case Token.LOSE:
                    return once() && loseLine();
                case Token.WEIGH:
                    advance();
                    return weighLine();
                default:
                    return refuse(CANT_STAND);
            }
        }

        private boolean unitLine() {
            if (token < Token.VILLAGE || token > Token.LAND) {
                return refuse(CANT_STAND);
            }
            into.unit = token - Token.VILLAGE;
            advance();
            return true;
        }

        private boolean fearLine() {
            boolean good = amount(MOST_OF_100);
            into.fear = amountRead;
            return good;
        }

        private boolean loseLine() {
            boolean good = amount(MOST_OF_100);
            into.lose = amountRead;
            return good;
        }

        private boolean weighLine() {
            if (token < Token.SHRINE || token > Token.WATER) {
                return refuse(CANT_STAND);
            }
            int weighed = token - Token.SHRINE;
            boolean good = once() && amount(MOST_WEIGHT);
            into.weight[weighed] = amountRead;
            return good;
        }

        private boolean amount(int most) {
            if (token != Token.NUMBER) {
                return refuse(CANT_STAND);
            }
            if (number > most) {
                return refuse(TOO_MUCH);
            }
            amountRead = number;
            advance();
            return true;
        }

        /** What the grammar calls E, A, B, C, S, T and P, by rank, with so many '(' open. */
        private boolean row(int rank, int open) {
            if (rank == RANK_OF_NOT) {
                return negated(open);
            }
            if (rank >= RANK_OF_PART) {
                return part(open);
            }
            if (!row(rank + 1, open)) {
                return false;
            }
            int mostSigns = rank == RANK_OF_COMPARISON ? 1 : MOST_KNOTS + 1;
            for (int i = 0; i < mostSigns && rankOf(token) == rank; i++) {
                int sign = token;
                if (!claimKnot() || !row(rank + 1, open)) {
                    return false;
                }
                emit(sign, 0);
            }
            return true;
        }

        private boolean negated(int open) {
            int nots = 0;
            while (nots <= MOST_KNOTS && token == Token.NOT) {
                if (!claimKnot()) {
                    return false;
                }
                nots++;
            }
            if (!row(RANK_OF_COMPARISON, open)) {
                return false;
            }
            for (int i = 0; i < nots; i++) {
                emit(Token.NOT, 0);
            }
            return true;
        }

        private boolean part(int open) {
            if (token == Token.OPEN) {
                if (open >= MOST_OPEN) {
                    return refuse(TOO_MUCH);
                }
                advance();
                return row(RANK_OF_OR, open + 1) && pass(Token.CLOSE);
            }
            boolean isNumber = token == Token.NUMBER;
            if (!isNumber && (token < Token.ONES || token > Token.VILLAGES)) {
                return refuse(CANT_STAND);
            }
            if (isNumber && number > MOST_NUMBER) {
                return refuse(TOO_MUCH);
            }
            int knot = token;
            int value = number;
            if (!claimKnot()) {
                return false;
            }
            emit(knot, value);
            return true;
        }

        /** Counts this token as a knot and goes on; knots count as they stand in the text. */
        private boolean claimKnot() {
            if (knotsRead >= MOST_KNOTS) {
                return refuse(TOO_MUCH);
            }
            knotsRead++;
            advance();
            return true;
        }

        private void emit(int knot, int value) {
            if (into.knots < MOST_KNOTS) {
                into.knot[into.knots] = knot;
                into.number[into.knots] = value;
                into.knots++;
            }
        }

        private static int rankOf(int sign) {
            switch (sign) {
                case Token.OR:
                    return RANK_OF_OR;
                case Token.AND:
                    return RANK_OF_AND;
                case Token.PLUS:
                case Token.MINUS:
                    return RANK_OF_SUM;
                case Token.TIMES:
                case Token.OVER:
                    return RANK_OF_PRODUCT;
                default:
                    return sign >= Token.LESS && sign <= Token.MORE ? RANK_OF_COMPARISON : NONE;
            }
        }

        private void advance() {
            while (at < length && (tape[at] == ' ' || tape[at] == '\n')) {
                at++;
            }
            place = at;
            if (at >= length) {
                token = Token.END;
            } else if (isLetter(tape[at])) {
                readWord();
            } else if (isDigit(tape[at])) {
                readNumber();
            } else {
                readSign(tape[at]);
            }
        }

        private static boolean isLetter(int sign) {
            return sign >= 'a' && sign <= 'z';
        }

        private static boolean isDigit(int sign) {
            return sign >= '0' && sign <= '9';
        }

        private void readWord() {
            while (at < length && isLetter(tape[at])) {
                at++;
            }
            token = wordBetween(place, at);
        }

        private int wordBetween(int from, int to) {
            int word = 0;
            int next = from;
            boolean same = true;
            for (int i = 0; i < Token.WORDS.length(); i++) {
                int sign = Token.WORDS.charAt(i);
                if (sign != ' ') {
                    same = same && next < to && tape[next] == sign;
                    next++;
                } else if (same && next == to) {
                    return word;
                } else {
                    word++;
                    next = from;
                    same = true;
                }
            }
            return Token.BAD;
        }

        private void readNumber() {
            number = 0;
            while (at < length && isDigit(tape[at])) {
                // Once beyond every limit it stays so, however many digits come.
                if (number <= MOST_NUMBER) {
                    number = number * 10 + tape[at] - '0';
                }
                at++;
            }
            token = Token.NUMBER;
        }

        private void readSign(int sign) {
            at++;
            switch (sign) {
                case '<':
                    token = follows('=') ? Token.AT_MOST : follows('>') ? Token.UNLIKE : Token.LESS;
                    break;
                case '>':
                    token = follows('=') ? Token.AT_LEAST : Token.MORE;
                    break;
                case '=':
                    token = Token.EQUAL;
                    break;
                case '+':
                    token = Token.PLUS;
                    break;
                case '-':
                    token = Token.MINUS;
                    break;
                case '*':
                    token = Token.TIMES;
                    break;
                case '/':
                    token = Token.OVER;
                    break;
                case '(':
                    token = Token.OPEN;
                    break;
                case ')':
                    token = Token.CLOSE;
                    break;
                case ';':
                    token = Token.SEMICOLON;
                    break;
                default:
                    token = Token.BAD;
            }
        }

        private boolean follows(int sign) {
            if (at < length && tape[at] == sign) {
                at++;
                return true;
            }
            return false;
        }
    }

    /** Gives each unit to a side by the rule of the terms. */
    private static final class Judge {
        private static final long GREATEST = 1000000000000L;

        private final Land land;
        private final Census census;
        private final long[] stack = new long[MOST_KNOTS];
        private boolean error;

        Judge(Land land, Census census) {
            this.land = land;
            this.census = census;
        }

        int award(Terms terms, int unit) {
            if (unit == Terms.LAND) {
                return holds(terms, land.all) ? land.all : 0;
            }
            int line = 0;
            int units = unit == Terms.VILLAGE ? land.size : MOST_DISTRICTS;
            for (int i = 0; i < units; i++) {
                int villages = unit == Terms.VILLAGE ? 1 << i : land.districts[i];
                if (villages != 0 && holds(terms, villages)) {
                    line |= villages;
                }
            }
            return line;
        }

        private boolean holds(Terms terms, int villages) {
            if (terms.knots == 0) {
                return peopleIn(0, villages) > peopleIn(1, villages);
            }
            error = false;
            int top = 0;
            for (int i = 0; i < terms.knots && !error; i++) {
                int knot = terms.knot[i];
                if (knot == Token.NOT && top >= 1) {
                    stack[top - 1] = truth(stack[top - 1] == 0);
                } else if (isOperand(knot) && top < MOST_KNOTS) {
                    stack[top] = knot == Token.NUMBER ? terms.number[i] : named(knot, villages);
                    top++;
                } else if (top >= 2) {
                    stack[top - 2] = worked(knot, stack[top - 2], stack[top - 1]);
                    top--;
                }
            }
            return !error && stack[0] != 0;
        }

        private static boolean isOperand(int knot) {
            return knot == Token.NUMBER || knot >= Token.ONES && knot <= Token.VILLAGES;
        }

        private static long truth(boolean holds) {
            return holds ? 1 : 0;
        }

        private long peopleIn(int side, int villages) {
            long sum = 0;
            for (int v = 0; v < land.size; v++) {
                if ((villages >> v & 1) != 0) {
                    sum += census.people[side][v];
                }
            }
            return sum;
        }

        private long named(int name, int villages) {
            switch (name) {
                case Token.ONES:
                    return peopleIn(0, villages);
                case Token.OTHERS:
                    return peopleIn(1, villages);
                case Token.SHRINES:
                    return Integer.bitCount(land.shrines[0] & villages)
                            - Integer.bitCount(land.shrines[1] & villages);
                case Token.RAILS:
                    return Integer.bitCount(land.rails & villages);
                case Token.HEADS:
                    return Integer.bitCount(land.heads & villages);
                default:
                    return Integer.bitCount(villages);
            }
        }

        private long worked(int sign, long a, long b) {
            switch (sign) {
                case Token.OR:
                    return truth(a != 0 || b != 0);
                case Token.AND:
                    return truth(a != 0 && b != 0);
                case Token.LESS:
                    return truth(a < b);
                case Token.AT_MOST:
                    return truth(a <= b);
                case Token.EQUAL:
                    return truth(a == b);
                case Token.UNLIKE:
                    return truth(a != b);
                case Token.AT_LEAST:
                    return truth(a >= b);
                case Token.MORE:
                    return truth(a > b);
                case Token.PLUS:
                    return bounded(a + b);
                case Token.MINUS:
                    return bounded(a - b);
                case Token.TIMES:
                    return product(a, b);
                default:
                    return quotient(a, b);
            }
        }

        private long bounded(long value) {
            error = error || value > GREATEST || value < -GREATEST;
            return value;
        }

        private long product(long a, long b) {
            // Asked by division, as the product itself may wrap round a long.
            if (a != 0 && Math.abs(b) > GREATEST / Math.abs(a)) {
                error = true;
                return 0;
            }
            return a * b;
        }

        private long quotient(long a, long b) {
            if (b == 0) {
                error = true;
                return 0;
            }
            return a / b;
        }
    }

    /** What a line costs, the line that costs least, and the weights that give a line. */
    private static final class Toll {
        static final int MOST_SEARCHED = 16;
        private static final int MOST_WEIGHT = 9;

        int bestLine;
        int bestHarm;
        private final Land land;
        private final Census census;
        private int ofShrine;
        private int ofRail;
        private int ofWater;
        /** Of all villages below one, what they cost at least, each on its better side. */
        private final int[] restCosts = new int[MOST_SEARCHED + 1];
        private final int[] surplus = new int[MOST_VILLAGES];
        private final int[] faith = new int[MOST_VILLAGES];
        private final int[] company = new int[MOST_VILLAGES];

        Toll(Land land, Census census) {
            this.land = land;
            this.census = census;
        }

        int wrong(int line) {
            int sum = 0;
            for (int v = 0; v < land.size; v++) {
                sum += census.people[line >> v & 1][v];
            }
            return sum;
        }

        int harm(int line, Terms terms) {
            heed(terms);
            return wrong(line) + ofShrine * land.desecrated(line)
                    + ofRail * land.severed(line) + ofWater * land.cut(line);
        }

        private void heed(Terms terms) {
            ofShrine = terms.weight[0];
            ofRail = terms.weight[1];
            ofWater = terms.weight[2];
        }

        void search(Terms terms) {
            heed(terms);
            restCosts[0] = 0;
            for (int v = 0; v < land.size && v < MOST_SEARCHED; v++) {
                restCosts[v + 1] = restCosts[v] + Math.min(ownCost(v, 0), ownCost(v, 1));
            }
            bestLine = 0;
            bestHarm = BEYOND_ALL;
            choose(land.size - 1, 0, 0);
        }

        /** What a village costs by itself; inside is 1 on side 0, 0 on side 1. */
        private int ownCost(int village, int inside) {
            int strange = land.shrines[inside] >> village & 1;
            return census.people[inside][village] + ofShrine * strange;
        }

        /**
         * Tries both sides of this village and of all below it. Side 1 comes first, so lines come by
         * their bits, and a later line of like harm is never better.
         */
        private void choose(int village, int line, int harm) {
            if (village < 0) {
                bestLine = line;
                bestHarm = harm;
                return;
            }
            int bit = 1 << village;
            int open = bit - 1;
            for (int inside = 0; inside < 2; inside++) {
                int drawn = inside == 0 ? line : line | bit;
                int outside = land.all & ~open & ~drawn;
                int across = inside == 0 ? drawn : outside;
                int now = harm + ownCost(village, inside) + ofRail * land.tracks(village, across)
                        + ofWater * land.pipes(bit, across);
                if (now + restCosts[village] < bestHarm
                        && !land.parted(drawn, open) && !land.parted(outside, open)) {
                    choose(village - 1, drawn, now);
                }
            }
        }

        int weigh(int line) {
            for (int v = 0; v < land.size; v++) {
                int bit = 1 << v;
                int around = land.beside(bit);
                surplus[v] = census.people[0][v] - census.people[1][v];
                faith[v] = 10 * ((land.shrines[0] >> v & 1) - (land.shrines[1] >> v & 1));
                company[v] = 10 * (2 * Integer.bitCount(around & line) - Integer.bitCount(around));
            }
            for (int a = 0; a <= MOST_WEIGHT; a++) {
                for (int b = 0; b <= MOST_WEIGHT; b++) {
                    for (int c = 0; c <= MOST_WEIGHT; c++) {
                        if (gives(line, a, b, c)) {
                            return 100 * a + 10 * b + c;
                        }
                    }
                }
            }
            return NONE;
        }

        private boolean gives(int line, int a, int b, int c) {
            for (int v = 0; v < land.size; v++) {
                boolean above = a * surplus[v] + b * faith[v] + c * company[v] > 0;
                if (above != ((line >> v & 1) != 0)) {
                    return false;
                }
            }
            return true;
        }
    }

    /** Who can know a draft from when on, by the notes as they were last sifted. */
    private static final class Rumour {
        static final int NEVER = MOST_DAY + 1;

        final int[] since = new int[MOST_PERSONS];
        private final int[] sinceOfAll = new int[MOST_PERSONS];
        private final Notes notes;

        Rumour(Notes notes) {
            this.notes = notes;
        }

        /** Works out since when each can know it, if one person (or NONE) tells nobody. */
        void spread(int draft, int silent) {
            Arrays.fill(since, NEVER);
            for (int i = 0; i < notes.held; i++) {
                if (notes.isKnown(i, Notes.SIGHT) && notes.subject[i] == draft) {
                    hears(notes.object[i], notes.third[i]);
                }
            }
            // Nobody hears it first by a row of more meetings than there are others.
            boolean news = true;
            for (int round = 0; round < MOST_PERSONS && news; round++) {
                news = meetAll(silent);
            }
        }

        private boolean meetAll(int silent) {
            boolean news = false;
            for (int i = 0; i < notes.held; i++) {
                if (notes.isKnown(i, Notes.MEETING)) {
                    news |= tells(notes.subject[i], notes.object[i], notes.third[i], silent);
                    news |= tells(notes.object[i], notes.subject[i], notes.third[i], silent);
                }
            }
            return news;
        }

        private boolean tells(int teller, int hearer, int day, int silent) {
            return teller != silent && since[teller] <= day && hears(hearer, day);
        }

        private boolean hears(int person, int day) {
            if (since[person] <= day) {
                return false;
            }
            since[person] = day;
            return true;
        }

        int explain(int act) {
            int draft = notes.subject[act];
            int person = notes.object[act];
            int day = notes.third[act];
            for (int i = 0; i < notes.held; i++) {
                if (notes.isKnown(i, Notes.SIGHT) && notes.subject[i] == draft
                        && notes.object[i] == person && notes.third[i] <= day) {
                    return 2;
                }
            }
            spread(draft, NONE);
            return since[person] <= day ? 1 : 0;
        }

        int carriers() {
            int found = 0;
            for (int draft = 0; draft < MOST_DRAFTS; draft++) {
                if (hasAct(draft)) {
                    found |= carriersOf(draft);
                }
            }
            return found;
        }

        private boolean hasAct(int draft) {
            for (int i = 0; i < notes.held; i++) {
                if (notes.isKnown(i, Notes.ACT) && notes.subject[i] == draft) {
                    return true;
                }
            }
            return false;
        }

        private int carriersOf(int draft) {
            spread(draft, NONE);
            System.arraycopy(since, 0, sinceOfAll, 0, MOST_PERSONS);
            int found = 0;
            for (int person = 0; person < MOST_PERSONS; person++) {
                // Who never knew it told it to nobody.
                if (sinceOfAll[person] != NEVER) {
                    spread(draft, person);
                    found |= losesAct(draft) ? 1 << person : 0;
                }
            }
            return found;
        }

        private boolean losesAct(int draft) {
            for (int i = 0; i < notes.held; i++) {
                if (notes.isKnown(i, Notes.ACT) && notes.subject[i] == draft) {
                    int person = notes.object[i];
                    int day = notes.third[i];
                    if (sinceOfAll[person] <= day && since[person] > day) {
                        return true;
                    }
                }
            }
            return false;
        }
    }

    /** People who go when a line is told, and the guards on their ways. */
    private static final class Exodus {
        int candidates;
        int bestGuards;
        int bestLost;
        private final Land land;
        private final Census census;
        private final int[] candidate = new int[MOST_CANDIDATES];
        private int fear;
        private int lose;
        /** Where those on the wrong side go from each village, by draft; the first row by one line. */
        private final int[][] goal = new int[MOST_DRAFTS][MOST_VILLAGES];
        private final int[] astray = new int[MOST_VILLAGES];
        private final int[] settled = new int[MOST_VILLAGES];
        private final int[] arriving = new int[MOST_VILLAGES];

        Exodus(Land land, Census census) {
            this.land = land;
            this.census = census;
        }

        int addCandidate(int village) {
            for (int i = 0; i < candidates; i++) {
                if (candidate[i] == village) {
                    return NONE;
                }
            }
            if (candidates >= MOST_CANDIDATES) {
                return NONE;
            }
            candidate[candidates] = village;
            candidates++;
            return candidates - 1;
        }

        void agree(Terms terms) {
            fear = terms.fear;
            lose = terms.lose;
        }

        int tell(int line, int days, int guards) {
            aim(line, goal[0]);
            return walk(line, goal[0], days, guarded(guards), BEYOND_ALL);
        }

        private int guarded(int guards) {
            int villages = 0;
            for (int i = 0; i < candidates; i++) {
                if ((guards >> i & 1) != 0) {
                    villages |= 1 << candidate[i];
                }
            }
            return villages;
        }

        private void aim(int line, int[] goals) {
            for (int v = 0; v < land.size; v++) {
                boolean inside = (line >> v & 1) != 0;
                goals[v] = towards(v, inside ? land.all & ~line : line);
            }
        }

        /** The village beside that is nearest to one of these, or NONE if there are none. */
        private int towards(int village, int homes) {
            int around = land.beside(1 << village);
            int near = homes;
            for (int steps = 0; steps < MOST_VILLAGES && near != 0; steps++) {
                int nearest = around & near;
                if (nearest != 0) {
                    return leastOf(nearest);
                }
                near |= land.beside(near);
            }
            return NONE;
        }

        /** Lets the days go by until so many are lost: how many are. */
        private int walk(int line, int[] goals, int days, int guarded, int enough) {
            for (int v = 0; v < land.size; v++) {
                int inside = line >> v & 1;
                astray[v] = census.people[inside][v];
                settled[v] = census.people[1 - inside][v];
            }
            int lost = 0;
            for (int day = 0; day < days && lost < enough; day++) {
                lost += walkOneDay(line, goals, guarded);
            }
            return lost;
        }

        private int walkOneDay(int line, int[] goals, int guarded) {
            int lost = 0;
            Arrays.fill(arriving, 0);
            for (int v = 0; v < land.size; v++) {
                int next = goals[v];
                if (astray[v] > 0 && land.has(next)) {
                    int go = shareUp(astray[v], fear);
                    int gone = (guarded >> v & 1) != 0 ? 0 : shareUp(go, lose);
                    astray[v] -= go;
                    lost += gone;
                    if (((line >> v ^ line >> next) & 1) == 0) {
                        arriving[next] += go - gone;
                    } else {
                        settled[next] += go - gone;
                    }
                }
            }
            for (int v = 0; v < land.size; v++) {
                astray[v] += arriving[v];
            }
            return lost;
        }

        int stillAstray() {
            int sum = 0;
            for (int v = 0; v < land.size; v++) {
                sum += astray[v];
            }
            return sum;
        }

        int fullest() {
            int most = 0;
            for (int v = 0; v < land.size; v++) {
                most = Math.max(most, astray[v] + settled[v]);
            }
            return most;
        }

        /** Finds where at most so many guards lose fewest in the worst of these drafts. */
        void place(int most, int chosen, Drafts drafts, int days) {
            for (int i = 0; i < drafts.held; i++) {
                aim(drafts.line[i], goal[i]);
            }
            bestGuards = 0;
            bestLost = BEYOND_ALL;
            for (int number = 0; number <= most && number <= candidates; number++) {
                for (int guards = 0; guards < 1 << candidates; guards++) {
                    if (Integer.bitCount(guards) == number) {
                        tryGuards(guards, chosen, drafts, days);
                    }
                }
            }
        }

        private void tryGuards(int guards, int chosen, Drafts drafts, int days) {
            int villages = guarded(guards);
            int worst = 0;
            for (int i = 0; i < drafts.held && worst < bestLost; i++) {
                if ((chosen >> i & 1) != 0) {
                    int lost = walk(drafts.line[i], goal[i], days, villages, bestLost);
                    worst = Math.max(worst, lost);
                }
            }
            if (worst < bestLost) {
                bestGuards = guards;
                bestLost = worst;
            }
        }
    }
}
