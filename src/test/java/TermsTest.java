/** Promises 2, 3, 4, 15 and 16: the tape, the terms, their faults, and the line that they give. */
public final class TermsTest {
    public static void main(String[] args) {
        promise2Feed();
        promise3Terms();
        promise3AFaultLeavesTheTermsAsTheyWere();
        promise4FaultOfTheLatest();
        promise4Tokens();
        promise4WhatCantStand();
        promise4TooMuch();
        promise4ToldAlready();
        promise15Given();
        promise15Values();
        promise15Units();
        promise16Turned();
        Check.end();
    }

    private static void promise2Feed() {
        AwardLine x = new AwardLine();
        for (int i = 1; i <= 20; i++) {
            Check.due("feed " + i, x.feed(538976288, 538976288, 538976288, 538976288, 538976288), 20 * i);
        }
        Check.due("beyond 400", x.feed(0, 0, 0, 0, 0), -1);
        Check.due("401 are not there", x.terms(401), -2);
        Check.due("400 blanks", x.terms(400), 0);
        // 'f' 'e' 'a' 'r', ' ' '7' ';' ' ', the highest byte first
        Check.due("feed", x.feed(0x66656172, 0x20373b20, 0x20202020, 0x20202020, 0x80ffffff), 20);
        Check.due("terms(16)", x.terms(16), 1);
        Check.due("fear", x.counted(7), 7);
        x.feed(0x80000000, 0, 0, 0, 0);
        Check.due("byte 128", x.terms(1), -1);
        Check.due("byte 128 is no token", x.fault(0), 1);
        Check.due("its place", x.fault(1), 0);
    }

    private static void promise3Terms() {
        AwardLine x = new AwardLine();
        Check.due("terms(-1)", x.terms(-1), -2);
        Check.due("terms(0)", x.terms(0), 0);
        Check.due("all lines", Check.terms(x, "unit land;first ones;weigh shrine 999;weigh rail 0;weigh water 1;"
                + "fear 100;lose 0;"), 7);
        Check.due("fear", x.counted(7), 100);
        Check.due("lose", x.counted(8), 0);
        Check.due("knots", x.counted(6), 1);
        Check.feed(x, new byte[40]);
        Check.due("41 of 40", x.terms(41), -2);
        Check.due("the tape stays", x.feed(0, 0, 0, 0, 0), 60);
        Check.due("none of 60", x.terms(0), 0);
        Check.due("the tape is empty then", x.feed(0, 0, 0, 0, 0), 20);
        Check.due("without a line: fear", x.counted(7), 10);
        Check.due("without a line: lose", x.counted(8), 5);
        Check.due("without a line: knots", x.counted(6), 0);
        x.terms(0);
        // twice, as the terms before may be held in two places
        Check.terms(x, "unit land;first 1;weigh shrine 9;fear 9;lose 9;");
        Check.terms(x, "unit land;first 1;weigh shrine 9;fear 9;lose 9;");
        Check.terms(x, "weigh rail 1;");
        x.village(0, 0, 1, false);
        x.count(0, 0, 10, 0);
        Check.due("nothing of the terms before is left: unit, first", x.given(0), 1);
        Check.due("nothing of the terms before is left: weigh", x.does(1, 0, 6), x.does(1, 0, 0));
        Check.due("nothing of the terms before is left: fear", x.counted(7), 10);
        cutShort("fear 5", "5;", 1, 6);
        cutShort("fea", "r 5;", 1, 0);
        cutShort("first 1 <", "= 1;", 1, 9);
        cutShort("first 1 ", ";", 1, 8);
    }

    /** What stands behind the bytes told is not looked at. */
    private static void cutShort(String told, String behind, int fault, int place) {
        AwardLine x = new AwardLine();
        Check.feed(x, (told + behind).getBytes(java.nio.charset.StandardCharsets.ISO_8859_1));
        Check.due("terms of " + told, x.terms(told.length()), -1);
        Check.due("fault of " + told, x.fault(0), fault);
        Check.due("place of " + told, x.fault(1), place);
    }

    private static void promise3AFaultLeavesTheTermsAsTheyWere() {
        AwardLine x = new AwardLine();
        Check.terms(x, "fear 33;first 1 + 1;unit land;");
        Check.due("a fault", Check.terms(x, "fear 44;first 0;lose 101;"), -1);
        Check.due("fear", x.counted(7), 33);
        Check.due("knots", x.counted(6), 3);
        Check.due("given", x.given(0), 511);
        Check.due("the tape is empty then", x.feed(0, 0, 0, 0, 0), 20);
    }

    private static void promise4FaultOfTheLatest() {
        AwardLine x = new AwardLine();
        Check.terms(x, "fear 101;");
        Check.due("fault(0)", x.fault(0), 2);
        Check.due("fault(1)", x.fault(1), 5);
        Check.due("-2", x.terms(1), -2);
        Check.due("fault(0) stays behind -2", x.fault(0), 2);
        Check.due("fault(1) stays behind -2", x.fault(1), 5);
        Check.due("fault(2)", x.fault(2), -1);
        Check.due("fault(-1)", x.fault(-1), -1);
        x.land(2, 2);
        Check.due("fault(0) stays behind another land", x.fault(0), 2);
        Check.terms(x, "fear 100;");
        Check.due("no fault", x.fault(0), 0);
        Check.due("no place", x.fault(1), -1);
    }

    private static void promise4Tokens() {
        Check.reads("", 0, 0);
        Check.reads(" \n ", 0, 0);
        Check.reads("fear 5;", 1, 0);
        Check.reads("fear\n5 ;\nlose 6 ; ", 2, 0);
        Check.reads("weigh rail5;weigh shrine7;", 2, 0);
        Check.reads("fear5;first ones+others*2;", 2, 5);
        Check.reads("first 1<2;", 1, 3);
        Check.reads("first 1<=2;", 1, 3);
        Check.reads("first 1<>2;", 1, 3);
        Check.reads("first 1>=2;", 1, 3);
        Check.reads("first not not(1)and(2 or ones);", 1, 7);
        Check.reads("fear 0000000000000000000000000000000000000099;", 1, 0);
        Check.reads("first 0000000009999;", 1, 1);
        Check.faulty("Fear 5;", 1, 0);
        Check.faulty("fear\t5;", 1, 4);
        Check.faulty("fear\r5;", 1, 4);
        Check.faulty("feared 5;", 1, 0);
        Check.faulty("fea 5;", 1, 0);
        Check.faulty("fearz 5;", 1, 0);
        Check.faulty("feara 5;", 1, 0);
        Check.faulty("fear{5;", 1, 4);
        Check.faulty("fear`5;", 1, 4);
        Check.faulty("fear 5:", 1, 6);
        Check.faulty("fear 5a;", 1, 6);
        Check.faulty("first 1 < = 2;", 1, 10);
        Check.faulty("first 1 > = 2;", 1, 10);
        Check.faulty("first 1 < > 2;", 1, 10);
        Check.faulty("first 1 >< 2;", 1, 9);
        Check.faulty("first 1 =< 2;", 1, 9);
        Check.faulty("first 1 == 2;", 1, 9);
        Check.faulty("first 1 <=> 2;", 1, 10);
        Check.faulty("first 1 <>= 2;", 1, 10);
        Check.faulty("first 1 & 2;", 1, 8);
        Check.faulty("first one;", 1, 6);
        Check.faulty("first villagesx;", 1, 6);
        Check.faulty("first 1;\u0000", 1, 8);
        Check.faulty("fear 5.;", 1, 6);
    }

    private static void promise4WhatCantStand() {
        Check.faulty(";", 1, 0);
        Check.faulty("fear 5;;", 1, 7);
        Check.faulty("5;", 1, 0);
        Check.faulty("village;", 1, 0);
        Check.faulty("unit", 1, 4);
        Check.faulty("unit  ", 1, 6);
        Check.faulty("unit ;", 1, 5);
        Check.faulty("unit villages;", 1, 5);
        Check.faulty("unit shrine;", 1, 5);
        Check.faulty("unit weigh;", 1, 5);
        Check.faulty("unit land", 1, 9);
        Check.faulty("unit land village;", 1, 10);
        Check.faulty("weigh", 1, 5);
        Check.faulty("weigh 5;", 1, 6);
        Check.faulty("weigh rails 5;", 1, 6);
        Check.faulty("weigh ones 5;", 1, 6);
        Check.faulty("weigh land 5;", 1, 6);
        Check.faulty("weigh rail;", 1, 10);
        Check.faulty("weigh rail -1;", 1, 11);
        Check.faulty("fear", 1, 4);
        Check.faulty("fear ones;", 1, 5);
        Check.faulty("lose (5);", 1, 5);
        Check.faulty("lose 5+1;", 1, 6);
        Check.faulty("first", 1, 5);
        Check.faulty("first;", 1, 5);
        Check.faulty("first ()", 1, 7);
        Check.faulty("first -1;", 1, 6);
        Check.faulty("first 1+;", 1, 8);
        Check.faulty("first 1+", 1, 8);
        Check.faulty("first 1 2;", 1, 8);
        Check.faulty("first 1);", 1, 7);
        Check.faulty("first (1;", 1, 8);
        Check.faulty("first (1", 1, 8);
        Check.faulty("first 1<2<3;", 1, 9);
        Check.faulty("first 1=2<>3;", 1, 9);
        Check.faulty("first 1+not 2;", 1, 8);
        Check.faulty("first 1<not 2;", 1, 8);
        Check.faulty("first 1 not 2;", 1, 8);
        Check.faulty("first not;", 1, 9);
        Check.faulty("first and 1;", 1, 6);
        Check.faulty("first 1 or;", 1, 10);
        Check.faulty("first 1 or or 1;", 1, 11);
        Check.faulty("first land;", 1, 6);
        Check.faulty("first rail;", 1, 6);
        Check.faulty("first ones fear 5;", 1, 11);
        Check.reads("first (1<2)<3;", 1, 5);
        Check.reads("first 1<2 and 2<3 or not 3<4;", 1, 12);
    }

    private static String nested(int n) {
        return "first " + "(".repeat(n) + "1" + ")".repeat(n) + ";";
    }

    private static String sum(int knots) {
        return "first 1" + "+1".repeat((knots - 1) / 2) + ";";
    }

    private static void promise4TooMuch() {
        Check.reads("weigh water 999;", 1, 0);
        Check.faulty("weigh water 1000;", 2, 12);
        Check.faulty("fear 101;", 2, 5);
        Check.faulty("lose 101;", 2, 5);
        Check.faulty("fear 99999999999999999999999999999999999;", 2, 5);
        Check.faulty("first 4294967296;", 2, 6);
        Check.faulty("first 99990;", 2, 6);
        Check.reads("first 9999;", 1, 1);
        Check.faulty("first 1+10000;", 2, 8);
        Check.faulty("first ones 10000;", 1, 11);
        Check.reads(nested(8), 1, 1);
        Check.faulty(nested(9), 2, 14);
        Check.reads("first ((((((((1))))))))+((((((((1))))))));", 1, 3);
        Check.faulty("first 1 (((((((((;", 1, 8);
        Check.reads(sum(63), 1, 63);
        Check.faulty(sum(65), 2, 6 + 64);
        Check.reads("first not " + sum(63).substring(6), 1, 64);
        Check.faulty("first not not " + sum(63).substring(6), 2, 14 + 62);
        Check.faulty("first not " + "1" + "+1".repeat(31) + "+;", 2, 10 + 63);
        Check.reads("first " + "not ".repeat(63) + "1;", 1, 64);
        Check.faulty("first " + "not ".repeat(64) + "1;", 2, 6 + 256);
        Check.faulty("first " + "not ".repeat(65) + "1;", 2, 6 + 256);
        Check.faulty("first " + "not ".repeat(64) + ";", 1, 6 + 256);
        Check.faulty("first " + "not ".repeat(64) + "10000;", 2, 6 + 256);
        Check.faulty("first " + "1 or ".repeat(32) + "others;", 2, 6 + 160);
        Check.reads("first (((1))) and " + "1 or ".repeat(30) + "1;weigh rail 9;fear 9;", 3, 63);
    }

    private static void promise4ToldAlready() {
        Check.faulty("unit land;unit land;", 3, 10);
        Check.faulty("first 1;first", 3, 8);
        Check.faulty("fear 1;lose 1;fear 2;", 3, 14);
        Check.faulty("lose 1;lose;", 3, 7);
        Check.faulty("weigh rail 1;weigh rail 2;", 3, 19);
        Check.faulty("weigh rail 1;weigh water 2;weigh shrine 3;weigh shrine 3;", 3, 48);
        Check.faulty("weigh rail 1;weigh", 1, 18);
        Check.faulty("fear 1;fear 101;", 3, 7);
        Check.faulty("fear 101;fear 1;", 2, 5);
        Check.faulty("fear 1;!fear 1;", 1, 7);
    }

    /** Two by two; people by hand 0, who doesn't err, on day 0. */
    private static AwardLine land(int... people) {
        AwardLine x = new AwardLine();
        x.land(2, 2);
        for (int v = 0; v < 4; v++) {
            x.count(0, v, people[2 * v], people[2 * v + 1]);
        }
        return x;
    }

    private static void gives(AwardLine x, String rule, int line) {
        Check.due("terms: " + rule, Check.terms(x, rule), rule.split(";").length);
        Check.due("given by " + rule, x.given(0), line);
    }

    private static void promise15Given() {
        AwardLine x = land(10, 5, 5, 10, 7, 7, 1, 0);
        Check.due("without terms", x.given(0), 9);
        Check.due("given(-1)", x.given(-1), -1);
        Check.due("given(1000)", x.given(1000), -1);
        Check.due("given(999)", x.given(999), 9);
        x.days(5);
        x.count(1, 0, 0, 0);
        Check.due("with a quarrel nobody is there", x.given(5), 8);
        Check.due("as known before", x.given(4), 9);
        x.village(0, 0, 0, true);
        x.village(1, 1, 1, true);
        x.village(2, 1, -1, false);
        x.canal(3);
        x.canal(3);
        gives(x, "first shrines;", 3);
        gives(x, "first shrines > 0;", 1);
        gives(x, "first shrines < 0;", 2);
        gives(x, "first rails;", 3);
        gives(x, "first heads;", 8);
        gives(x, "first heads = 1;", 8);
        gives(x, "first villages = 1;", 15);
        gives(x, "first ones = 7 and others = 7;", 4);
        gives(x, "first ones <> 10;", 14);
        gives(x, "first ones <= 5;", 10);
        gives(x, "first ones < 5;", 8);
        gives(x, "first ones >= 7;", 5);
    }

    private static void promise15Values() {
        AwardLine x = land(10, 5, 5, 10, 7, 7, 1, 0);
        gives(x, "first 2 + 3 * 4 = 14;", 15);
        gives(x, "first 0 * 5 = 0;", 15);
        gives(x, "first 0 / 5 = 0;", 15);
        gives(x, "first (2 + 3) * 4 = 20;", 15);
        gives(x, "first 10 - 4 - 3 = 3;", 15);
        gives(x, "first 100 / 10 / 5 = 2;", 15);
        gives(x, "first 7 * 5 / 10 = 3;", 15);
        gives(x, "first (0 - 7) / 2 = 0 - 3;", 15);
        gives(x, "first 7 / (0 - 2) = 0 - 3;", 15);
        gives(x, "first not 5 = 0;", 15);
        gives(x, "first (not 5) = 0;", 15);
        gives(x, "first not not 5 = 1;", 0);
        gives(x, "first (not not 5) = 1;", 15);
        gives(x, "first (3 and 5) = 1;", 15);
        gives(x, "first (0 or 5) + (5 > 2) = 2;", 15);
        gives(x, "first 1 or 0 and 0;", 15);
        gives(x, "first not 1 or 1;", 15);
        gives(x, "first not 0 and 0;", 0);
        gives(x, "first 0 - 1;", 15);
        gives(x, "first 1 / 0;", 0);
        gives(x, "first 1 or 1 / 0;", 0);
        gives(x, "first not (0 and 1 / 0);", 0);
        gives(x, "first not (1 / (ones - 10));", 14);
        gives(x, "first 10 / (ones - 7) >= 0;", 1);
        gives(x, "first 1000*1000*1000*1000;", 15);
        gives(x, "first 1000*1000*1000*1000 + 1;", 0);
        gives(x, "first 1 + 1000*1000*1000*1000 - 1;", 0);
        gives(x, "first 1000*1000*1000*1000 + 0;", 15);
        gives(x, "first 1000*1000*1000*1000 - 0;", 15);
        gives(x, "first 1000*1000*1000*(ones + 990) > 0;", 15);
        gives(x, "first 0 - 1000*1000*1000*1000;", 15);
        gives(x, "first 0 - 1000*1000*1000*1000 - 1;", 0);
        gives(x, "first 1000*1000*1000*1001;", 0);
        gives(x, "first 1000*1000*1000*1000*0;", 0);
        gives(x, "first 1000*1000*1000*1000*0 = 0;", 15);
        gives(x, "first (1000*1000*1000*1000)*(1000*1000*1000*1000) or 1;", 0);
        gives(x, "first (4096*4096*256)*(4096*4096*256)*4 = 0 or 1;", 0);
        gives(x, "first (0-9999)*9999*9999 <= 0;", 15);
        gives(x, "first (0-9999)*9999*9999*2 <= 0;", 0);
        gives(x, "first 1000*1000*1000*1000/(0-1) < 0;", 15);
    }

    private static void promise15Units() {
        AwardLine x = land(10, 5, 5, 10, 7, 7, 1, 0);
        x.village(0, 5, 0, true);
        x.village(1, 5, 0, true);
        x.village(2, 0, 1, true);
        x.village(3, 0, -1, false);
        x.canal(0);
        x.canal(1);
        gives(x, "unit district;", 12);
        gives(x, "unit district; first ones = 15 and others = 15;", 3);
        gives(x, "unit district; first shrines = 2 and rails = 2 and heads = 2 and villages = 2;", 3);
        gives(x, "unit district; first shrines = 0 - 1 and rails = 1 and heads = 0;", 12);
        gives(x, "unit land;", 15);
        gives(x, "unit land; first ones = 23 and others = 22 and shrines = 1 and rails = 3 and heads = 2;", 15);
        gives(x, "unit land; first villages <> 4;", 0);
        gives(x, "unit village;", 9);
    }

    private static void promise16Turned() {
        AwardLine x = land(10, 5, 5, 10, 7, 7, 1, 0);
        x.village(0, 1, -1, false);
        x.village(1, 1, -1, false);
        Check.due("by the same", x.turned(0, 0), 0);
        Check.due("by district", x.turned(1, 0), 2);
        Check.due("by land", x.turned(2, 0), 2);
        Check.terms(x, "unit land;");
        Check.due("from land to village", x.turned(0, 0), 2);
        Check.due("from land to district", x.turned(1, 0), 2);
        Check.due("from land to land", x.turned(2, 0), 0);
        Check.due("turned(3, 0)", x.turned(3, 0), -1);
        Check.due("turned(-1, 0)", x.turned(-1, 0), -1);
        Check.due("turned(0, -1)", x.turned(0, -1), -1);
        Check.due("turned(0, 1000)", x.turned(0, 1000), -1);
        x.days(1);
        x.count(1, 3, 5, 5);
        Check.due("as known then", x.turned(0, 1), 1);
    }
}
