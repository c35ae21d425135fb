/**
 * The edges that part 2 of the document's Terms names, sentence by sentence in its order: the text of the terms,
 * its faults, the units and the values of the rule. Each method quotes the words that it holds the class to.
 */
public final class EdgesTextTest {
    private static final String[] LINES = {"unit land;", "first 1;", "weigh shrine 1;", "weigh rail 2;",
        "weigh water 3;", "fear 4;", "lose 6;"};
    private static final String[] NAMES = {"ones", "others", "shrines", "rails", "heads", "villages"};
    private static final String[] SIGNS = {"+", "-", "*", "/", "<", "<=", "=", "<>", ">=", ">", " and ", " or "};

    public static void main(String[] args) {
        aTextHasLinesWithSemicolons();
        aTextHasSevenLinesAtMost();
        aTextHas400BytesAtMost();
        unitsAreThree();
        weighedAreThree();
        rulesMayBeShortOrLong();
        aComparisonHasTwoSides();
        anOpenHasItsRuleAndItsClose();
        namesAreSix();
        wordsAreSmallLettersInARow();
        numbersAreDigitsInARow();
        numbersHaveLimits();
        blanksAre10And32();
        signsBelongTogetherRightBehindOneAnother();
        theFirstFaultAlongTheText();
        ofOnePlaceTheLeastFault();
        aTokenThatIsNoneOrCantStandThere();
        theLengthIfMoreMustCome();
        aNinthOpenIsTooMuch();
        a65thKnotIsTooMuch();
        knotsAreOfTheRuleAlone();
        aLineToldAlready();
        unitsOfVillagesDistrictsAndLand();
        namesOfAUnit();
        notZeroAndNoError();
        errorsAreNotHidden();
        valuesAreLongs();
        truthIs1Or0();
        divisionIsCutTowards0();
        valuesEndAt10ToThe12();
        withoutALine();
        Check.end();
    }

    private static String all() {
        return String.join("", LINES);
    }

    /** "TERMS, a TEXT: { LINE ';' }": none at all, one, and each of them needs its ';'. */
    private static void aTextHasLinesWithSemicolons() {
        Check.reads("", 0, 0);
        Check.reads(" ", 0, 0);
        Check.faulty(";", 1, 0);
        for (String line : LINES) {
            String bare = line.substring(0, line.length() - 1);
            Check.reads(line, 1, line.startsWith("first") ? 1 : 0);
            Check.reads(bare + " ; ", 1, line.startsWith("first") ? 1 : 0);
            Check.faulty(bare, 1, bare.length());
            Check.faulty(bare + " fear 1;", 1, line.length());
            Check.faulty(line + ";", 1, line.length());
        }
    }

    /** All seven LINES, in whatever order; behind them none can stand. */
    private static void aTextHasSevenLinesAtMost() {
        Check.reads(all(), 7, 1);
        StringBuilder back = new StringBuilder();
        for (String line : LINES) {
            back.insert(0, line);
        }
        Check.reads(back.toString(), 7, 1);
        for (String line : LINES) {
            int place = all().length() + (line.startsWith("weigh") ? 6 : 0);
            Check.faulty(all() + line, 3, place);
        }
        Check.faulty(all() + ";", 1, all().length());
        Check.faulty(all() + "x", 1, all().length());
        Check.faulty(all() + " \n!", 1, all().length() + 2);
        Check.faulty(all() + "weigh", 1, all().length() + 5);
        Check.reads(all() + " \n", 7, 1);
    }

    /** The tape's 400 bytes are one text at most: a fault at the last byte, and behind it. */
    private static void aTextHas400BytesAtMost() {
        Check.reads("fear 5;" + " ".repeat(393), 1, 0);
        Check.reads(" ".repeat(393) + "fear 5;", 1, 0);
        Check.faulty("fear 5;" + " ".repeat(392) + "!", 1, 399);
        Check.faulty("fear" + " ".repeat(396), 1, 400);
        Check.faulty(" ".repeat(394) + "fear 5", 1, 400);
        Check.faulty("z".repeat(400), 1, 0);
        // the last byte ends a token, or the first part of one
        for (String end : new String[] {"villag", "v", "shrine", "x", "!"}) {
            Check.faulty(" ".repeat(400 - end.length()) + end, 1, 400 - end.length());
            Check.faulty("unit" + " ".repeat(396 - end.length()) + end, 1, 400 - end.length());
        }
        for (String end : new String[] {"1", "1<", "1>", "1<=", "1<>", "1+", "ones", "(", "not"}) {
            Check.faulty("first" + " ".repeat(395 - end.length()) + end, 1, 400);
        }
        Check.faulty("fear " + "9".repeat(395), 2, 5);
        Check.faulty("fear " + "0".repeat(395), 1, 400);
        Check.reads("fear " + "0".repeat(393) + "7;", 1, 0);
        Check.faulty(";".repeat(400), 1, 0);
        Check.faulty("first " + "(".repeat(394), 2, 14);
        Check.faulty("first " + "not ".repeat(98), 2, 6 + 4 * 64);
    }

    /** "unit ( village | district | land )": one of them, and no other word. */
    private static void unitsAreThree() {
        Check.reads("unit village;", 1, 0);
        Check.reads("unit district;", 1, 0);
        Check.reads("unit land;", 1, 0);
        for (String no : new String[] {"villages", "shrine", "unit", "first", "weigh", "ones", "not", "5", "(", ";",
            "lan", "lands"}) {
            Check.faulty("unit " + no + ";", 1, 5);
        }
        Check.faulty("unit village district;", 1, 13);
    }

    /** "weigh ( shrine | rail | water ) N". */
    private static void weighedAreThree() {
        Check.reads("weigh shrine 5;", 1, 0);
        Check.reads("weigh rail 5;", 1, 0);
        Check.reads("weigh water 5;", 1, 0);
        for (String no : new String[] {"shrines", "rails", "waters", "ones", "heads", "land", "fear", "weigh",
            "5", ";"}) {
            Check.faulty("weigh " + no + " 5;", 1, 6);
        }
        for (String no : new String[] {";", "ones", "(5)", "-5", "+5", "water"}) {
            Check.faulty("weigh rail " + no + ";", 1, 11);
            Check.faulty("fear " + no + ";", 1, 5);
            Check.faulty("lose " + no + ";", 1, 5);
        }
        Check.faulty("weigh rail 5 5;", 1, 13);
        Check.faulty("weigh rail 5+5;", 1, 12);
    }

    /** "E: A { or A }. A: B { and B }. B: not B | C. .. S: T { ( + | - ) T }. T: P { ( * | / ) P }". */
    private static void rulesMayBeShortOrLong() {
        Check.faulty("first;", 1, 5);
        Check.reads("first 1;", 1, 1);
        for (String sign : new String[] {" or ", " and ", "+", "-", "*", "/"}) {
            Check.reads("first 1" + sign + "1;", 1, 3);
            Check.reads("first 1" + sign + "1" + sign + "1;", 1, 5);
            Check.reads("first 1" + (sign + "1").repeat(31) + ";", 1, 63);
            Check.faulty("first" + sign + "1;", 1, sign.startsWith(" ") ? 6 : 5);
            Check.faulty("first 1" + sign + ";", 1, 7 + sign.length());
            Check.faulty("first 1" + sign + sign.trim() + " 1;", 1, 7 + sign.length());
        }
        Check.reads("first not 1;", 1, 2);
        Check.reads("first not not not 1;", 1, 4);
        Check.faulty("first not;", 1, 9);
        Check.faulty("first not or 1;", 1, 10);
        Check.faulty("first 1 not;", 1, 8);
        Check.faulty("first 1 + not 1;", 1, 10);
        Check.faulty("first 1 = not 1;", 1, 10);
        Check.reads("first 1 + (not 1);", 1, 4);
        Check.reads("first 1 and not 1 or not 1;", 1, 7);
    }

    /** "C: S [ ( < | <= | = | <> | >= | > ) S ]": once at most, but in '(' again. */
    private static void aComparisonHasTwoSides() {
        String[] signs = {"<", "<=", "=", "<>", ">=", ">"};
        for (String sign : signs) {
            Check.reads("first 1" + sign + "1;", 1, 3);
            Check.faulty("first 1" + sign + ";", 1, 7 + sign.length());
            Check.faulty("first " + sign + "1;", 1, 6);
            for (String next : signs) {
                Check.faulty("first 1" + sign + "1" + next + "1;", 1, 8 + sign.length());
                Check.reads("first (1" + sign + "1)" + next + "1;", 1, 5);
            }
        }
        Check.reads("first 1 < 2 and 1 < 2 or 1 < 2;", 1, 11);
    }

    /** "P: N | NAME | '(' E ')'": with a whole rule in it, and none of the three missing. */
    private static void anOpenHasItsRuleAndItsClose() {
        Check.reads("first (1);", 1, 1);
        Check.reads("first (ones or not 1 < 2);", 1, 6);
        Check.reads("first 2*(1 and 1)+(not 0);", 1, 8);
        Check.faulty("first ();", 1, 7);
        Check.faulty("first (;", 1, 7);
        Check.faulty("first (1;", 1, 8);
        Check.faulty("first (1 fear 1;", 1, 9);
        Check.faulty("first );", 1, 6);
        Check.faulty("first 1);", 1, 7);
        Check.faulty("first (1));", 1, 9);
        Check.faulty("first (1)(1);", 1, 9);
        Check.faulty("first (1)1;", 1, 9);
        Check.faulty("first (1) ones;", 1, 10);
        Check.faulty("(fear 1);", 1, 0);
    }

    /** "NAME: ones others shrines rails heads villages". */
    private static void namesAreSix() {
        for (String name : NAMES) {
            Check.reads("first " + name + ";", 1, 1);
            Check.faulty(name + ";", 1, 0);
            Check.faulty("first " + name + "x;", 1, 6);
            Check.faulty("first " + name.substring(0, name.length() - 1) + ";", 1, 6);
            Check.faulty("first " + name + " " + name + ";", 1, 7 + name.length());
            Check.faulty("first " + name + "(1);", 1, 6 + name.length());
        }
        for (String no : new String[] {"unit", "first", "weigh", "fear", "lose", "village", "district", "land",
            "shrine", "rail", "water", "and", "or", "head", "one", "other"}) {
            Check.faulty("first " + no + ";", 1, 6);
        }
    }

    /** "Words: small letters in a row": from a to z, nothing beside them. */
    private static void wordsAreSmallLettersInARow() {
        for (int b = 0; b < 256; b++) {
            String text = "fear" + (char) b + "5;";
            if (b == 10 || b == 32 || b >= '0' && b <= '9') {
                Check.reads(text, 1, 0);
            } else {
                Check.faulty(text, 1, b >= 'a' && b <= 'z' ? 0 : 4);
            }
        }
        Check.faulty("f ear 5;", 1, 0);
        Check.faulty("fe\nar 5;", 1, 0);
        Check.faulty("FEAR 5;", 1, 0);
        Check.reads("unit land;fear5;", 2, 0);
        Check.faulty("unitland;", 1, 0);
        Check.faulty("fear 5;unit landfear 6;", 1, 12);
    }

    /** "N: digits": in a row, with noughts before them, too. */
    private static void numbersAreDigitsInARow() {
        for (int b = 0; b < 256; b++) {
            String text = "first 1" + (char) b + ";";
            if (b == 10 || b == 32 || b >= '0' && b <= '9') {
                Check.reads(text, 1, 1);
            } else {
                Check.faulty(text, 1, "+-*/<=>;".indexOf(b) >= 0 ? 8 : 7);
            }
        }
        Check.faulty("fear 1 2;", 1, 7);
        Check.reads("fear 0;", 1, 0);
        Check.reads("fear 00;", 1, 0);
        Check.reads("fear 000000000000000000100;", 1, 0);
        Check.faulty("fear 000000000000000000101;", 2, 5);
    }

    private static void upTo(String before, int most) {
        Check.reads(before + "0;", 1, before.equals("first ") ? 1 : 0);
        Check.reads(before + most + ";", 1, before.equals("first ") ? 1 : 0);
        for (String more : new String[] {"" + (most + 1), "0" + (most + 1), most + "0", "2147483648", "4294967296",
            "4294967297", "18446744073709551616", "99999999999999999999999999"}) {
            Check.faulty(before + more + ";", 2, before.length());
        }
    }

    /** "0 .. 9999, of weigh 0 .. 999, of fear, lose 0 .. 100" and "too much (at it): a number beyond what is said". */
    private static void numbersHaveLimits() {
        upTo("first ", 9999);
        upTo("weigh shrine ", 999);
        upTo("weigh rail ", 999);
        upTo("weigh water ", 999);
        upTo("fear ", 100);
        upTo("lose ", 100);
        Check.faulty("first 1+10000+1;", 2, 8);
        Check.faulty("first (10000);", 2, 7);
        Check.faulty("fear 101", 2, 5);
    }

    /** "blanks 10, 32": between any two tokens and at the ends; no other byte is one. */
    private static void blanksAre10And32() {
        Check.reads("\n fear\n\n5 \n;\n", 1, 0);
        Check.reads("first\nnot\n(\n1\n<=\n2\n)\nor\nones\n;\n", 1, 6);
        for (int b : new int[] {0, 9, 11, 12, 13, 31, 33, 127, 128, 133, 160, 255}) {
            Check.faulty("fear 5;" + (char) b, 1, 7);
            Check.faulty((char) b + "fear 5;", 1, 0);
        }
    }

    /** "a = (or > behind <) right behind < or > belongs to it". */
    private static void signsBelongTogetherRightBehindOneAnother() {
        Check.reads("first 1<=1;", 1, 3);
        Check.reads("first 1<>1;", 1, 3);
        Check.reads("first 1>=1;", 1, 3);
        for (String apart : new String[] {"< =", "< >", "> =", "<\n=", "<\n>", ">\n="}) {
            Check.faulty("first 1" + apart + "1;", 1, 9);
        }
        for (String two : new String[] {"=<", "=>", "==", "><", ">>", "<<"}) {
            Check.faulty("first 1" + two + "1;", 1, 8);
        }
        for (String three : new String[] {"<=>", "<==", "<>=", "<>>", ">==", ">=>"}) {
            Check.faulty("first 1" + three + "1;", 1, 9);
        }
        Check.faulty("first 1<=;", 1, 9);
        Check.faulty("first 1<", 1, 8);
        Check.faulty("first 1<=", 1, 9);
    }

    /** "FAULTS, the first along the text". */
    private static void theFirstFaultAlongTheText() {
        Check.faulty("fear 101;lose;", 2, 5);
        Check.faulty("lose;fear 101;", 1, 4);
        Check.faulty("fear 1;fear 101;x", 3, 7);
        Check.faulty("first (((((((((10000;", 2, 14);
        Check.faulty("first 10000(((((((((;", 2, 6);
        Check.faulty("first 1 x 10000;", 1, 8);
        Check.faulty("weigh rail 1;weigh rail 1000;", 3, 19);
        Check.faulty("weigh rail 1000;weigh rail 1;", 2, 11);
    }

    /** "of one place the least": what can't stand there isn't too much, nor told already. */
    private static void ofOnePlaceTheLeastFault() {
        Check.faulty("first 1 first 1;", 1, 8);
        Check.faulty("unit unit;", 1, 5);
        Check.faulty("fear 1 fear 1;", 1, 7);
        Check.faulty("weigh rail 1;weigh weigh", 1, 19);
        Check.faulty("weigh rail rail 1;", 1, 11);
        Check.faulty("first 1 10000;", 1, 8);
        Check.faulty("10000;", 1, 0);
        Check.faulty("unit 10000;", 1, 5);
        Check.faulty("first ((((((((1(", 1, 15);
        String full = "first not 1" + "+1".repeat(31);
        Check.reads(full + ";", 1, 64);
        Check.faulty(full + " ones;", 1, full.length() + 1);
        Check.faulty(full + " not;", 1, full.length() + 1);
        Check.faulty(full + " 10000;", 1, full.length() + 1);
        Check.faulty(full + " x;", 1, full.length() + 1);
        Check.faulty(full + "(;", 1, full.length());
    }

    /** "1 a TOKEN that is none (another word, too) or can't stand there": at the beginning, in and behind a line. */
    private static void aTokenThatIsNoneOrCantStandThere() {
        for (String none : new String[] {"!", "x", "fears", "A", "\t", "\u0000", "\u00ff", "_", ".", ",", ":"}) {
            Check.faulty(none, 1, 0);
            Check.faulty("fear " + none, 1, 5);
            Check.faulty("fear 1 " + none + ";", 1, 7);
            Check.faulty("fear 1;" + none, 1, 7);
            Check.faulty("first " + none + ";", 1, 6);
            Check.faulty("first 1 + " + none + ";", 1, 10);
            Check.faulty("first 1 " + none + " 1;", 1, 8);
        }
        for (String misplaced : new String[] {"1", "(", ")", "+", "<=", ";", "ones", "not", "and", "village", "rail"}) {
            Check.faulty(misplaced, 1, 0);
            Check.faulty("unit land;" + misplaced, 1, 10);
        }
    }

    /** "(the length, if more must come)": with the blanks behind it. */
    private static void theLengthIfMoreMustCome() {
        for (String half : new String[] {"unit", "first", "weigh", "weigh rail", "fear", "lose", "unit land", "first 1",
            "first 1+", "first not", "first (", "first (1", "first 1<", "first 1<=", "first 1 and", "first 1 or",
            "weigh rail 1", "fear 1", "lose 1", "fear 1;lose"}) {
            Check.faulty(half, 1, half.length());
            Check.faulty(half + " ", 1, half.length() + 1);
            Check.faulty(half + " \n \n", 1, half.length() + 4);
        }
    }

    /** "a ninth '(' open": eight may be, as often as one likes; the ninth is told at its place. */
    private static void aNinthOpenIsTooMuch() {
        String eight = "((((((((1))))))))";
        Check.reads("first " + eight + ";", 1, 1);
        Check.faulty("first (" + eight + ");", 2, 14);
        Check.reads("first " + eight + "+" + eight + "<" + eight + ";", 1, 5);
        Check.faulty("first " + eight + "+(" + eight + ");", 2, 6 + 17 + 1 + 8);
        // seven are open, an eighth is shut again before the next eighth and a ninth
        Check.reads("first (((((((" + "(1)+(1)" + ")))))));", 1, 3);
        Check.faulty("first (((((((" + "(1)+((1))" + ")))))));", 2, 18);
        Check.faulty("first " + "(".repeat(8), 1, 14);
        Check.faulty("first " + "(".repeat(9), 2, 14);
        Check.faulty("first (((((((((", 2, 14);
    }

    /** "a 65th KNOT of the whole text (N, NAMES, signs, not, and, or in E: one each)". */
    private static void a65thKnotIsTooMuch() {
        String odd = "first 1" + "+1".repeat(31);
        String even = "first not 1" + "+1".repeat(31);
        Check.reads(odd + ";", 1, 63);
        Check.reads(even + ";", 1, 64);
        Check.reads("first " + "not ".repeat(63) + "ones;", 1, 64);
        for (String sign : SIGNS) {
            Check.faulty(even + sign + "1;", 2, even.length() + (sign.startsWith(" ") ? 1 : 0));
            Check.faulty(odd + sign + "1;", 2, odd.length() + sign.length());
            // a not can stand behind and, or alone
            Check.faulty(odd + sign + "not 1;", sign.startsWith(" ") ? 2 : 1, odd.length() + sign.length());
            Check.faulty(odd + sign + ";", 1, odd.length() + sign.length());
        }
        for (String name : NAMES) {
            Check.faulty(odd + "+" + name + ";", 2, odd.length() + 1);
            Check.faulty(odd + "+" + name, 2, odd.length() + 1);
        }
        Check.faulty(odd + "+10000;", 2, odd.length() + 1);
        Check.faulty("first " + "not ".repeat(64) + "1;", 2, 6 + 256);
        Check.faulty("first " + "not ".repeat(65) + "1;", 2, 6 + 256);
    }

    /** KNOTS are "in E" alone, and '(' is none of them. */
    private static void knotsAreOfTheRuleAlone() {
        String even = "first not 1" + "+1".repeat(31) + ";";
        Check.reads("weigh rail 1;weigh water 1;weigh shrine 1;fear 1;lose 1;unit land;" + even, 7, 64);
        Check.reads(even + "weigh rail 1;weigh water 1;weigh shrine 1;fear 1;lose 1;unit land;", 7, 64);
        Check.reads("first ((not ((1))));", 1, 2);
        Check.reads("first not (1)" + "+(1)".repeat(31) + ";", 1, 64);
        Check.faulty("first not not (1)" + "+(1)".repeat(31) + ";", 2, 17 + 4 * 30 + 2);
        AwardLine x = new AwardLine();
        Check.terms(x, even);
        Check.due("64 are worked out: not 32 is 0", x.given(0), 0);
        Check.terms(x, "first " + "not ".repeat(63) + "0;");
        Check.due("63 times not 0 is 1", x.given(0), 511);
    }

    /** "3 a LINE told already (at its word; of weigh at what is weighed)". */
    private static void aLineToldAlready() {
        for (String line : LINES) {
            int place = line.length() + (line.startsWith("weigh") ? 6 : 0);
            Check.faulty(line + line, 3, place);
            Check.faulty(line + line.substring(0, line.lastIndexOf(' ')), 3, place);
            Check.faulty(line + " \n" + line, 3, place + 2);
        }
        Check.faulty("fear 1;lose 1;unit land;fear 1;", 3, 24);
        Check.reads("weigh rail 1;weigh water 1;weigh shrine 1;", 3, 0);
        Check.faulty("weigh rail 1;weigh water 1;weigh shrine 1;weigh water 1;", 3, 48);
        Check.faulty("unit land;unit", 3, 10);
        Check.faulty("unit land;unit village;", 3, 10);
    }

    /** Two by two; people by hand 0, who doesn't err, on day 0. */
    private static AwardLine square(int... people) {
        AwardLine x = new AwardLine();
        x.land(2, 2);
        for (int v = 0; v < 4; v++) {
            x.count(0, v, people[2 * v], people[2 * v + 1]);
        }
        return x;
    }

    private static void gives(AwardLine x, String text, int line) {
        Check.due("terms of " + text, Check.terms(x, text) > 0, true);
        Check.due("given by " + text, x.given(0), line);
    }

    /** "Of a UNIT (each VILLAGE, each DISTRICT that has one, or the whole LAND)". */
    private static void unitsOfVillagesDistrictsAndLand() {
        AwardLine x = square(10, 0, 0, 10, 5, 4, 4, 5);
        gives(x, "unit village;", 0b0101);
        gives(x, "unit district;", 0);
        gives(x, "unit district;first 1;", 15);
        x.village(0, 5, -1, false);
        x.village(3, 5, -1, false);
        gives(x, "unit district;", 0b1001);
        gives(x, "unit district;first villages;", 15);
        gives(x, "unit land;", 0);
        gives(x, "unit land;first villages = 4;", 15);
        gives(x, "unit land;first ones = 19 and others = 19;", 15);
    }

    /** "shrines: those of side 0 less those of side 1; rails, heads, villages: how many VILLAGES". */
    private static void namesOfAUnit() {
        AwardLine x = square(1, 2, 3, 4, 5, 6, 7, 8);
        gives(x, "unit land;first shrines = 0 and rails = 0 and heads = 0;", 15);
        for (int v = 0; v < 4; v++) {
            x.village(v, 0, 1, true);
        }
        x.canal(2);
        x.canal(2);
        x.drinks(0, 1);
        gives(x, "unit land;first shrines = 0 - 4;", 15);
        gives(x, "unit land;first rails = 4 and villages = 4;", 15);
        gives(x, "unit land;first heads = 1;", 15);
        gives(x, "first heads;", 4);
        gives(x, "first shrines;", 15);
        x.village(0, 0, 0, false);
        x.village(1, 0, 0, true);
        gives(x, "unit land;first shrines = 0;", 15);
        gives(x, "first shrines > 0;", 3);
        gives(x, "first not rails;", 1);
        gives(x, "unit land;first ones = 16 and others = 20;", 15);
    }

    /** "It goes to side 0 if E is not 0 and no ERROR, else to side 1". */
    private static void notZeroAndNoError() {
        AwardLine x = square(0, 1, 1, 0, 2, 2, 3, 4);
        gives(x, "first ones - others;", 0b1011);
        gives(x, "first 0;", 0);
        gives(x, "first 0 - 1;", 15);
        gives(x, "first 9999;", 15);
        gives(x, "first 1 / ones;", 0b0010);
        gives(x, "first 1 / ones = 1 / ones;", 0b1110);
        gives(x, "first 1 / (ones - others) = 1 / (ones - others);", 0b1011);
    }

    /** "both sides are worked out": an ERROR in any of them is one of all, whatever stands round it. */
    private static void errorsAreNotHidden() {
        AwardLine x = square(1, 1, 1, 1, 1, 1, 1, 1);
        for (String error : new String[] {"1/0", "0/0", "1/(1-1)", "9999*9999*9999*9999"}) {
            gives(x, "first " + error + ";", 0);
            gives(x, "first 1 or " + error + ";", 0);
            gives(x, "first " + error + " or 1;", 0);
            gives(x, "first not (0 and " + error + ");", 0);
            gives(x, "first not (" + error + " and 0);", 0);
            gives(x, "first not " + error + ";", 0);
            gives(x, "first 1 + 0 * (" + error + ");", 0);
            gives(x, "first 1 + 0 / (" + error + ");", 0);
            gives(x, "first (" + error + ") = (" + error + ");", 0);
            gives(x, "first (" + error + ") <> 7;", 0);
        }
    }

    /** "VALUES are longs": beyond what 32 bits hold; and a product that 64 bits don't hold is an ERROR. */
    private static void valuesAreLongs() {
        AwardLine x = square(1, 1, 1, 1, 1, 1, 1, 1);
        gives(x, "first 4096*4096*128 > 0;", 15);
        gives(x, "first 4096*4096*256;", 15);
        gives(x, "first 4096*4096*256 + 1 > 1;", 15);
        gives(x, "first 0 - 4096*4096*256 < 0;", 15);
        gives(x, "first 0*5 = 0 and 5*0 = 0 and 0*0 = 0;", 15);
        gives(x, "first 9999*9999*9999 / 9999 / 9999 = 9999;", 15);
        // 2 to the 63, 64 and 65, of both signs: a long would wrap them round
        gives(x, "first (4096*4096*256)*(4096*4096*256) = 0;", 0);
        gives(x, "first (4096*4096*256)*(4096*4096*128) < 0;", 0);
        gives(x, "first (4096*4096*512)*(4096*4096*256) = 0;", 0);
        gives(x, "first (0-4096*4096*256)*(4096*4096*256) = 0;", 0);
        gives(x, "first (0-4096*4096*256)*(0-4096*4096*256) = 0;", 0);
        gives(x, "first (1000*1000*1000*1000)*(1000*1000*1000*1000) <> 0;", 0);
    }

    /** "comparisons, and, or, not are 1 or 0 (what isn't 0 is as 1". */
    private static void truthIs1Or0() {
        AwardLine x = square(1, 1, 1, 1, 1, 1, 1, 1);
        String[] ones = {"2 < 3", "2 <= 2", "2 <= 3", "2 = 2", "2 <> 3", "3 <> 2", "2 >= 2", "3 >= 2", "3 > 2",
            "(0-3) < (0-2)", "2 and 3", "2 or 3", "0 or 7", "7 or 0", "not 0", "not not 7", "(0-5) and (0-7)",
            "0-5 or 0"};
        String[] noughts = {"2 < 2", "3 < 2", "3 <= 2", "2 = 3", "3 = 2", "2 <> 2", "1 >= 2", "2 > 2", "2 > 3",
            "2 and 0", "0 and 2", "0 or 0", "0 and 0", "not 7", "not 1", "not (0-1)", "not not 0"};
        for (String one : ones) {
            gives(x, "first (" + one + ") = 1;", 15);
            gives(x, "first 5 + (" + one + ") = 6;", 15);
        }
        for (String nought : noughts) {
            gives(x, "first (" + nought + ") = 0;", 15);
            gives(x, "first 5 + (" + nought + ") = 5;", 15);
        }
    }

    /** "/ is cut towards 0". */
    private static void divisionIsCutTowards0() {
        AwardLine x = square(1, 1, 1, 1, 1, 1, 1, 1);
        int[][] rows = {{7, 2, 3}, {-7, 2, -3}, {7, -2, -3}, {-7, -2, 3}, {1, 2, 0}, {-1, 2, 0}, {0, 5, 0}, {0, -5, 0},
            {6, 3, 2}, {-6, 3, -2}, {9999, 1, 9999}, {9999, 9999, 1}, {9998, 9999, 0}, {9999, -1, -9999}};
        for (int[] row : rows) {
            gives(x, "first " + told(row[0]) + "/" + told(row[1]) + " = " + told(row[2]) + ";", 15);
        }
    }

    private static String told(int n) {
        return n < 0 ? "(0-" + -n + ")" : "" + n;
    }

    /** "a value above 10 to the 12 or below 0 by more than that": just that is none yet. */
    private static void valuesEndAt10ToThe12() {
        AwardLine x = square(1, 1, 1, 1, 1, 1, 1, 1);
        String most = "1000*1000*1000*1000";
        gives(x, "first " + most + ";", 15);
        gives(x, "first " + most + " - 1 + 1;", 15);
        gives(x, "first " + most + " + 1;", 0);
        gives(x, "first " + most + " + 1 - 1;", 0);
        gives(x, "first 1 + " + most + ";", 0);
        gives(x, "first " + most + " - (0 - 1);", 0);
        gives(x, "first " + most + " * 1;", 15);
        gives(x, "first " + most + " / 1;", 15);
        gives(x, "first " + most + " * (0 - 1);", 15);
        gives(x, "first " + most + " / (0 - 1);", 15);
        gives(x, "first 0 - " + most + ";", 15);
        gives(x, "first 0 - " + most + " - 1;", 0);
        gives(x, "first 0 - " + most + " - 1 + 1;", 0);
        gives(x, "first 0 - 1 - " + most + ";", 0);
        gives(x, "first 0 - " + most + " + (0 - 1);", 0);
        gives(x, "first (0 - 1) * " + most + ";", 15);
        // 10001 times 99990001 is 1 above 10 to the 12; 1000001 times 999999 is 1 below
        gives(x, "first (9999 + 2) * (9999 * 9999 + 2 * 9999 - 9998);", 0);
        gives(x, "first (9901 * 101) * (999 * 1001) = " + most + " - 1;", 15);
        gives(x, "first (0 - 9999 - 2) * (9999 * 9999 + 2 * 9999 - 9998);", 0);
        gives(x, "first (2000*1000*1000) * 501 or 1;", 0);
        gives(x, "first (2000*1000*1000) * 500;", 15);
    }

    /** "Without a LINE: unit village, first ones > others, all weigh 0, fear 10, lose 5": each of them by itself. */
    private static void withoutALine() {
        for (int out = 0; out < LINES.length; out++) {
            AwardLine x = square(7, 0, 0, 7, 1, 1, 0, 0);
            x.village(0, 0, 1, true);
            x.village(1, 0, 1, true);
            x.canal(0);
            x.drinks(0, 1);
            // another text before, in both of the places where terms may be held: nothing of it is left
            Check.terms(x, "unit district;first 0;weigh shrine 99;weigh rail 99;weigh water 99;fear 99;lose 99;");
            Check.terms(x, "unit district;first 0;weigh shrine 98;weigh rail 98;weigh water 98;fear 98;lose 98;");
            StringBuilder text = new StringBuilder();
            for (int i = 0; i < LINES.length; i++) {
                text.append(i == out ? "" : LINES[i].replace("first 1;", "first villages = 4;"));
            }
            Check.due("six lines", Check.terms(x, text.toString()), 6);
            String without = " without " + LINES[out];
            Check.due("given" + without, x.given(0), out == 0 ? 0 : out == 1 ? 0 : 15);
            Check.due("turned by village" + without, x.turned(0, 0), out == 0 ? 0 : out == 1 ? 1 : 4);
            Check.due("turned by land" + without, x.turned(2, 0), out == 0 ? 4 : 0);
            int harm = 1 + (out == 2 ? 0 : 1) + (out == 3 ? 0 : 2) + (out == 4 ? 0 : 3);
            Check.due("harm" + without, x.does(1, 0, 6), harm);
            Check.due("knots" + without, x.counted(6), out == 1 ? 0 : 3);
            Check.due("fear" + without, x.counted(7), out == 5 ? 10 : 4);
            Check.due("lose" + without, x.counted(8), out == 6 ? 5 : 6);
        }
        AwardLine x = square(1, 1, 2, 1, 1, 2, 0, 0);
        Check.due("first ones > others: like ones are not above", x.given(0), 0b0010);
    }
}
