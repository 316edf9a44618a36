/** The tape and its language: promises 1 to 5 and 10, and what rules reckon. */
public final class LanguageTest {
    private static final String TWO = "wrestler a strength 5; wrestler b strength 3;";

    public static void main(String[] args) {
        promise1NewObject();
        promise2Feed();
        promise3Trim();
        promise4Teach();
        promise5ErrorAt();
        promise10TapeBytes();
        tokens();
        grammar();
        depth();
        tokenLimit();
        laterErrors();
        limits();
        pointsLines();
        arithmetic();
        logic();
        valuesOfBouts();
        Check.end("LanguageTest");
    }

    private static void promise1NewObject() {
        BeltRounds x = new BeltRounds();
        Check.same("wrestlers()", x.wrestlers(), 0);
        Check.same("rules()", x.rules(), 0);
        Check.same("wrestlersIn()", x.wrestlersIn(), 0);
        Check.same("rounds()", x.rounds(), 0);
        Check.same("bouts()", x.bouts(), 0);
        Check.same("openBouts()", x.openBouts(), 0);
        Check.same("tapeBytes()", x.tapeBytes(), 0);
        Check.same("errorAt()", x.errorAt(), -1);
    }

    private static void promise2Feed() {
        BeltRounds x = new BeltRounds();
        // "rule", " dra", "w;  ", and line ends.
        Check.same("feed()", x.feed(0x72756c65, 0x20647261, 0x773b2020, 0x0a0a0a0a, 0x20202020), 20);
        Check.same("teach()", x.teach(), 0);
        Check.same("rules()", x.rules(), 1);
        for (int i = 1; i <= 100; i++) {
            Check.same("feed()", x.feed(-1, 0, 1, 2, 3), 20 * i);
        }
        Check.noState("feed() of a full tape", () -> x.feed(1, 2, 3, 4, 5));
        Check.same("tapeBytes()", x.tapeBytes(), 2000);
        x.trim(1981);
        Check.noState("feed() with room for 19 bytes", () -> x.feed(1, 2, 3, 4, 5));
        Check.same("tapeBytes()", x.tapeBytes(), 1981);
        x.trim(1980);
        Check.same("feed() with room for 20 bytes", x.feed(1, 2, 3, 4, 5), 2000);
        // Each of the five numbers comes in its turn: a wrong byte is told where it stands.
        for (int i = 0; i < 20; i++) {
            BeltRounds y = new BeltRounds();
            int[] four = {0x20202020, 0x20202020, 0x20202020, 0x20202020, 0x20202020};
            four[i / 4] += ('?' - ' ') << 24 - 8 * (i % 4);
            y.feed(four[0], four[1], four[2], four[3], four[4]);
            Check.same("teach()", y.teach(), 1);
            Check.same("errorAt()", y.errorAt(), i);
        }
    }

    private static void promise3Trim() {
        BeltRounds x = new BeltRounds();
        Check.same("trim(0)", x.trim(0), 0);
        Check.noArgument("trim(1) of an empty tape", () -> x.trim(1));
        Check.feed(x, "rule draw; rule draw;");
        Check.noArgument("trim(-1)", () -> x.trim(-1));
        Check.noArgument("trim(22)", () -> x.trim(22));
        Check.noArgument("trim of the least number", () -> x.trim(Integer.MIN_VALUE));
        Check.same("tapeBytes()", x.tapeBytes(), 21);
        Check.same("trim(21)", x.trim(21), 21);
        Check.same("trim(10)", x.trim(10), 10);
        Check.same("teach()", x.teach(), 0);
        Check.same("rules()", x.rules(), 1);
    }

    private static void promise4Teach() {
        BeltRounds x = Check.taught(TWO + "points 5 4 3; rule red wins;");
        x.pairRound();
        x.tellByRules();
        x.turnIn(1);
        long before = x.digest();
        Check.same("teach() of an error", Check.teach(x, TWO + "rule"), 1);
        Check.same("digest(), all stays", x.digest(), before);
        Check.same("tapeBytes()", x.tapeBytes(), 0);
        Check.same("teach() of error 2", Check.teach(x, TWO + TWO), 2);
        Check.same("teach() of error 5", Check.teach(x, TWO + "points 1 1 10;"), 5);
        Check.same("digest(), all stays", x.digest(), before);
        Check.same("ruledOutcome(0), by the rules of before", x.ruledOutcome(0), 0);
        x.turnIn(1);
        x.pairRound();
        x.tell(0, 1);
        Check.same("pointsOf(0), by the worth of before", x.pointsOf(0), 9);
        Check.same("teach()", Check.teach(x, "wrestler c strength 8; wrestler d strength 9;"), 0);
        Check.same("rounds()", x.rounds(), 0);
        Check.same("rules()", x.rules(), 0);
        Check.same("bouts()", x.bouts(), 0);
        Check.same("pointsOf(0)", x.pointsOf(0), 0);
        Check.same("timesMet(0, 1)", x.timesMet(0, 1), 0);
        Check.same("wrestlersIn()", x.wrestlersIn(), 2);
        Check.noState("restingOne()", () -> x.restingOne());
        x.pairRound();
        Check.same("redOf(0), belts begin anew", x.redOf(0), 1);
        x.tellByRules();
        Check.same("pointsOf(0), a draw without rules and points", x.pointsOf(0), 1);
        Check.same("teach() of nothing", x.teach(), 0);
        Check.same("wrestlers()", x.wrestlers(), 0);
        Check.teach(x, TWO + "wrestler c strength 1; rule red wins when 1 = 2;");
        x.pairRound();
        Check.same("restingOne()", x.restingOne(), 2);
        Check.same("ruledOutcome(0)", x.ruledOutcome(0), 1);
        Check.same("teach()", Check.teach(x, TWO + "wrestler c strength 1; rule red wins;"), 0);
        Check.noState("restingOne(), nothing stays", () -> x.restingOne());
        x.pairRound();
        Check.same("ruledOutcome(0), nothing stays of the tests", x.ruledOutcome(0), 0);
    }

    private static void promise5ErrorAt() {
        BeltRounds x = new BeltRounds();
        Check.same("errorAt()", x.errorAt(), -1);
        Check.teach(x, "rule draw; wrong");
        Check.same("errorAt()", x.errorAt(), 11);
        Check.feed(x, "rule draw;");
        Check.same("errorAt() ahead of the next teach()", x.errorAt(), 11);
        x.teach();
        Check.same("errorAt()", x.errorAt(), -1);
    }

    private static void promise10TapeBytes() {
        BeltRounds x = new BeltRounds();
        x.feed(0, 0, 0, 0, 0);
        Check.same("tapeBytes()", x.tapeBytes(), 20);
        x.trim(7);
        Check.same("tapeBytes()", x.tapeBytes(), 7);
        x.feed(0, 0, 0, 0, 0);
        Check.same("tapeBytes()", x.tapeBytes(), 27);
        x.teach();
        Check.same("tapeBytes()", x.tapeBytes(), 0);
    }

    private static void tokens() {
        Check.taught("");
        Check.taught("  \n \n");
        Check.taught("\nwrestler\na1b2c3d4e5\nstrength 000007 ;rule draw when 1<=2and[3>=2];points 1 2 3;");
        Check.taught("rule draw when 1<2and 3>2or not met;");
        Check.taught("wrestler zaz0 strength 5; wrestler z9z strength 5; wrestler az strength 5;");
        Check.error("wrestler ` strength 5;", 1, 9);
        Check.error("wrestler { strength 5;", 1, 9);
        Check.error("points 1 2 :;", 1, 11);
        Check.error("points 1 2 .;", 1, 11);
        Check.error("\twrestler a strength 5;", 1, 0);
        Check.error("rule\rdraw;", 1, 4);
        Check.error("rule draw\u0000;", 1, 9);
        Check.error("rule draw; \u00ff", 1, 11);
        Check.error("wrestler A strength 5;", 1, 9);
        Check.error("wrestler aB strength 5;", 1, 10);
        Check.error("wrestler a_b strength 5;", 1, 10);
        Check.error("wrestler abcdefghij strength 5; rule", 1, 36);
        Check.error("wrestler abcdefghijk strength 5;", 1, 9);
        Check.error("wrestler abcdefghi12 strength 5;", 1, 9);
        Check.error("wrestler a strength 0999999;", 1, 20);
        Check.error("wrestler a strength 999999;", 5, 20);
        Check.error("wrestlera strength 5;", 1, 0);
        Check.error("wrestler a strength5;", 1, 11);
        Check.error("wrestler a strength 5wrestler b", 1, 21);
        Check.error("wrestler 1a strength 5;", 1, 9);
        Check.error("rule draw when 1 < = 2;", 1, 19);
        Check.error("rule draw when 1 => 2;", 1, 18);
        Check.error("rule draw when 1 == 2;", 1, 18);
        Check.error("rule draw when 1 <> 2;", 1, 18);
        Check.error("rule draw when 1 ! 2;", 1, 17);
        Check.error("points 12 3;", 1, 11);
    }

    private static void grammar() {
        Check.error("wrestler", 1, 8);
        Check.error("wrestler   ", 1, 11);
        Check.error("wrestler a", 1, 10);
        Check.error("wrestler a strength", 1, 19);
        Check.error("wrestler a strength 5", 1, 21);
        Check.error("wrestler a strength 5 6;", 1, 22);
        Check.error("wrestler a strength -5;", 1, 20);
        Check.error("wrestler a 5;", 1, 11);
        Check.error("wrestler;", 1, 8);
        Check.error("wrestler a;", 1, 10);
        Check.error("wrestler a strength;", 1, 19);
        Check.error("points;", 1, 6);
        Check.error("points 1;", 1, 8);
        Check.error("rule;", 1, 4);
        Check.error("wrestler strength strength 5;", 1, 9);
        for (String keyword : ("wrestler strength points draw rest rule red blue wins when round won met belts "
                + "floats not and or min max").split(" ")) {
            Check.error("wrestler " + keyword + " strength 5;", 1, 9);
        }
        Check.taught("wrestler test strength 5; wrestler a strength 5; wrestler in strength 5;");
        Check.error("points 1 2;", 1, 10);
        Check.error("points 1 2 3 4;", 1, 13);
        Check.error(";", 1, 0);
        Check.error("rule draw;;", 1, 10);
        Check.error("rule draw wins;", 1, 10);
        Check.error("rule red;", 1, 8);
        Check.error("rule blue;", 1, 9);
        Check.error("rule wins;", 1, 5);
        Check.error("rule draw when;", 1, 14);
        Check.error("rule draw when 1;", 1, 16);
        Check.error("rule draw when [1] = 1;", 1, 17);
        Check.error("rule draw when (1 = 1);", 1, 18);
        Check.error("rule draw when met = 1;", 1, 19);
        Check.error("rule draw when 1 = met;", 1, 19);
        Check.error("rule draw when 1 < 2 < 3;", 1, 21);
        Check.error("rule draw when not 1;", 1, 20);
        Check.error("rule draw when [met;", 1, 19);
        Check.error("rule draw when met];", 1, 18);
        Check.error("rule draw when met and;", 1, 22);
        Check.error("rule draw when or met;", 1, 15);
        Check.error("rule draw when met or;", 1, 21);
        Check.error("rule draw when not;", 1, 18);
        Check.error("rule draw when 1 =;", 1, 18);
        Check.error("rule draw when 1 = 1 +;", 1, 22);
        Check.error("rule draw when 1 = 1 /;", 1, 22);
        Check.error("rule draw when 1 = -;", 1, 20);
        Check.error("rule draw when 1 = (1;", 1, 21);
        Check.error("rule draw when 1 = min(1,;", 1, 25);
        Check.error("rule draw when 1 = won;", 1, 22);
        Check.error("rule draw when round red = 1;", 1, 21);
        Check.error("rule draw when points = 1;", 1, 22);
        Check.error("rule draw when points 1 = 1;", 1, 22);
        Check.error("rule draw when wins red = 1;", 1, 15);
        Check.error("rule draw when a = 1;", 1, 15);
        Check.error("rule draw when min 1 = 1;", 1, 19);
        Check.error("rule draw when min(1) = 1;", 1, 20);
        Check.error("rule draw when min(1, 2, 3) = 1;", 1, 23);
        Check.error("rule draw when max(1, 2 = 2;", 1, 24);
        Check.error("rule draw when 1 + = 1;", 1, 19);
        Check.error("rule draw when + 1 = 1;", 1, 15);
        Check.error("rule draw when 1 * / 1 = 1;", 1, 19);
        Check.error("rule draw when () = 1;", 1, 16);
        Check.taught("rule draw when - - 1 - - 1 = 2 * - 3 / - strength red and not not [met or not met];");
        Check.taught("rule red wins when rest red = won blue + floats red - belts blue * points red / strength blue;");
        Check.taught("rule blue wins when min(round, max(1, (2))) >= min(max(1, 2), 3) and 1 > 2 or 1 <= 2;");
        Check.taught("rule draw;points 1 2 3;wrestler a strength 1;rule red wins;points 9 0 9;");
    }

    private static void depth() {
        String when = "rule draw when ";
        Check.taught(when + "((((((((1)))))))) = 1;");
        Check.error(when + "(((((((((1))))))))) = 1;", 1, 23);
        Check.taught(when + "--------1 = 1;");
        Check.error(when + "---------1 = 1;", 1, 23);
        Check.taught(when + "[[[[[[[[met]]]]]]]];");
        Check.error(when + "[[[[[[[[[met]]]]]]]]];", 1, 23);
        Check.taught(when + "not not not not not not not not met;");
        Check.error(when + "not not not not not not not not not met;", 1, 47);
        Check.taught(when + "[not [not [not -min(1, 2) = 1]]];");
        Check.error(when + "[not [not [not -min(1, (2)) = 1]]];", 1, 38);
        Check.taught(when + "min(min(min(min(min(min(min(min(1,2),2),2),2),2),2),2),2) = 1;");
        Check.error(when + "min(min(min(min(min(min(min(min(min(1,2),2),2),2),2),2),2),2),2) = 1;", 1, 50);
        Check.error(when + "[[[[[[[[(1) = 1]]]]]]]];", 1, 23);
        Check.error(when + "[[[[[[[[1 = -1]]]]]]]];", 1, 27);
        Check.error(when + "not not not not [[[[not met]]]];", 1, 35);
        // The depth is smaller again behind what it was greater for.
        Check.taught(when + "(((((((1))))))) - -(((((((1))))))) - 1 = 1 and not [[[[[[[met]]]]]]] and [[met] or met];");
        Check.taught(when + "min(((((((1) + 0)))) + 1), (((((((1)))))))) = -(((((((1)))))));");
        Check.taught(when + "-1 - -1 - ---1 = 1;");
        Check.taught(when + "not met and not met and not met and not met and not met and not met and not met"
                + " and not met and not met and not met;");
        // A comparison behind not is one deeper.
        Check.error(when + "not ((((((((1)))))))) = 1;", 1, 26);
        Check.error(when + "not 1 = ((((((((1))))))));", 1, 30);
        Check.taught(when + "not 1 = (((((((1))))))) and ((((((((1)))))))) = 1;");
    }

    /** 7 tokens, and two for each of the times. */
    private static String longSum(int times) {
        return "rule draw when 1=1" + "+1".repeat(times) + ";";
    }

    private static void tokenLimit() {
        String even = "rule draw;" + longSum(195);
        Check.error(even, 0, -1);
        Check.error(even + "  \n", 0, -1);
        Check.error(even + " rule", 1, even.length() + 1);
        String longer = "rule draw;" + longSum(196);
        Check.error(longer, 1, longer.length() - 2);
        // 399 tokens, and one more; the end of the tape does not count.
        String odd = longSum(196);
        Check.error(odd, 0, -1);
        Check.error(odd + "rule ", 1, odd.length() + 5);
        Check.error(odd + "rule draw", 1, odd.length() + 5);
        String points = "points 1 2 3;".repeat(80);
        Check.error(points, 0, -1);
        Check.error(points + " \n", 0, -1);
        Check.error(points + " points", 1, points.length() + 1);
        Check.error(points + " ?", 1, points.length() + 1);
        Check.error(points.replaceFirst(" ", " ? "), 1, 7);
    }

    private static void laterErrors() {
        Check.error("wrestler a strength 0;", 5, 20);
        Check.error("wrestler a strength 1;", 0, -1);
        Check.error("wrestler a strength 999;", 0, -1);
        Check.error("wrestler a strength 1000;", 5, 20);
        Check.error("points 9 9 9;", 0, -1);
        Check.error("points 0 0 0;", 0, -1);
        Check.error("points 10 9 9;", 5, 7);
        Check.error("points 9 10 9;", 5, 9);
        Check.error("points 9 9 10;", 5, 11);
        Check.error("points 9 9 000009;", 0, -1);
        Check.error("wrestler a strength 5; wrestler a strength 5;", 2, 32);
        Check.error("wrestler a strength 5; wrestler ab strength 5; wrestler b strength 5;", 0, -1);
        Check.error("wrestler ab strength 5; wrestler a strength 5; wrestler ab strength 5;", 2, 56);
        // The leftmost one is told, if there is no error 1.
        Check.error("points 1 1 77; wrestler a strength 0; wrestler a strength 5;", 5, 11);
        Check.error("wrestler a strength 5; wrestler a strength 0; points 10 1 1;", 2, 32);
        Check.error("points 1 1 77; rule", 1, 19);
        Check.error("wrestler a strength 5; wrestler a strength 5; ?", 1, 46);
        Check.error("rule draw when 999999 = 0; points 1 2 3;", 0, -1);
    }

    private static String manyWrestlers(int howMany) {
        StringBuilder text = new StringBuilder();
        for (int i = 0; i < howMany; i++) {
            text.append("wrestler w").append(i).append(" strength 5;");
        }
        return text.toString();
    }

    private static void limits() {
        Check.same("wrestlers()", Check.taught(manyWrestlers(12)).wrestlers(), 12);
        String twelve = manyWrestlers(12);
        Check.error(twelve + "wrestler x strength 5;", 4, twelve.length() + 9);
        Check.error(twelve + "wrestler w0 strength 5;", 2, twelve.length() + 9);
        Check.error(twelve + "wrestler x strength 0;", 4, twelve.length() + 9);
        Check.error(twelve + "wrestler x strength 5; wrestler x strength 5; ", 4, twelve.length() + 9);
        Check.error(manyWrestlers(14) + "rule;", 1, manyWrestlers(14).length() + 4);
        String sixteen = "rule draw;".repeat(16);
        Check.same("rules()", Check.taught(sixteen).rules(), 16);
        Check.error(sixteen + " rule red wins when met;", 4, 161);
        Check.error(sixteen + sixteen + "points 1 1 1;", 4, 160);
        Check.error("points 1 1 10;" + sixteen + sixteen, 5, 11);
        Check.error(sixteen + sixteen + "points 1 1;", 1, 330);
    }

    private static int[] pointsBehind(String lines, int outcome) {
        BeltRounds x = Check.taught(TWO + "wrestler c strength 1;" + lines);
        x.pairRound();
        x.tell(0, outcome);
        return new int[] {x.pointsOf(0), x.pointsOf(1), x.pointsOf(2)};
    }

    private static void samePoints(String lines, int outcome, int a, int b, int c) {
        int[] points = pointsBehind(lines, outcome);
        Check.same(lines + " a", points[0], a);
        Check.same(lines + " b", points[1], b);
        Check.same(lines + " c", points[2], c);
    }

    private static void pointsLines() {
        samePoints("", 0, 2, 0, 2);
        samePoints("", 1, 1, 1, 2);
        samePoints("", 2, 0, 2, 2);
        samePoints("points 7 5 3;", 0, 7, 0, 3);
        samePoints("points 7 5 3;", 1, 5, 5, 3);
        samePoints("points 7 5 3;", 2, 0, 7, 3);
        samePoints("points 7 5 3; points 9 0 1;", 2, 0, 9, 1);
        samePoints("points 7 5 3; rule draw; points 0 9 0;", 1, 9, 9, 0);
    }

    /** Whether a test holds in a first bout of a (red, strength 5) and b (blue, strength 3). */
    private static void test(String test, boolean due) {
        BeltRounds x = Check.taught(TWO + "rule red wins when " + test + "; rule blue wins;");
        x.pairRound();
        Check.same(test, x.ruledOutcome(0), due ? 0 : 2);
    }

    private static void equal(String sum, String due) {
        test(sum + " = " + due, true);
        test(sum + " < " + due, false);
        test(sum + " > " + due, false);
    }

    private static void arithmetic() {
        equal("2 + 3 * 4", "14");
        equal("(2 + 3) * 4", "20");
        equal("10 - 4 - 3", "3");
        equal("10 - (4 - 3)", "9");
        equal("100 / 10 / 2", "5");
        equal("100 / (10 / 2)", "20");
        equal("7 / 2 * 2", "6");
        equal("7 * 2 / 3", "4");
        equal("-7 / 2", "-3");
        equal("7 / -2", "-3");
        equal("-7 / -2", "3");
        equal("5 / 0", "0");
        equal("-5 / 0", "0");
        equal("0 / 0", "0");
        equal("-2 * 3 + 1", "-5");
        equal("- - 4", "4");
        equal("1 - -1", "2");
        equal("min(3, -4) + max(3, -4)", "-1");
        equal("min(1 + 1, 3)", "2");
        equal("max(1, 2 * 2)", "4");
        // 65536 * 65536 wraps to 0; 32768 * 65536 to the least number.
        equal("65536 * 65536", "0");
        equal("32768 * 65536", "-(32768 * 65536)");
        test("32768 * 65536 < 0", true);
        test("32768 * 65536 - 1 > 0", true);
        equal("32768 * 65536 / -1", "32768 * 65536");
        equal("999999 * 999999", "-(729379 * 1000 + 967)");
        test("1 <= 1", true);
        test("1 <= 0", false);
        test("0 <= 1", true);
        test("1 >= 1", true);
        test("1 >= 2", false);
        test("2 >= 1", true);
        test("1 < 1", false);
        test("0 < 1", true);
        test("1 > 1", false);
        test("2 > 1", true);
        test("1 = 2", false);
        test("2 = 1", false);
    }

    private static void logic() {
        String yes = "1 = 1";
        String no = "1 = 2";
        test(yes + " and " + yes, true);
        test(yes + " and " + no, false);
        test(no + " and " + yes, false);
        test(no + " or " + no, false);
        test(yes + " or " + no, true);
        test(no + " or " + yes, true);
        test(yes + " or " + yes + " and " + no, true);
        test(no + " and " + no + " or " + yes, true);
        test("[" + yes + " or " + yes + "] and " + no, false);
        test("not " + yes, false);
        test("not " + no, true);
        test("not not " + yes, true);
        test("not " + no + " and " + no, false);
        test("not [" + no + " and " + no + "]", true);
        test("not " + yes + " or " + yes, true);
        test("not [" + yes + " or " + yes + "]", false);
        test("met", false);
        test("not met", true);
        for (String right : new String[] {"1 = 1", "1 < 2", "2 > 1", "1 <= 1", "1 >= 1", "not met"}) {
            test("not " + right, false);
            for (String other : new String[] {"1 = 1", "1 < 2", "2 > 1", "1 <= 1", "1 >= 1", "not met"}) {
                test(right + " and " + other, true);
                test("not [" + right + " and " + other + "]", false);
                test("not [" + right + " or " + other + "]", false);
            }
        }
    }

    private static void valuesOfBouts() {
        test("strength red = 5 and strength blue = 3", true);
        test("round = 0 and points red = 0 and won blue = 0", true);
        test("belts red = 1 and belts blue = -1", true);
        test("floats red = 0 and floats blue = 0 and rest red = 0 and rest blue = 0", true);
        // The second round is b against a again, who won the bout of the first one.
        BeltRounds x = Check.taught(TWO
                + "rule red wins when round = 1 and met and won red = 0 and points red = 0 and won blue = 1"
                + " and points blue = 4 and floats blue = 1 and floats red = 0 and belts red = 0 and belts blue = 0;"
                + "rule blue wins when round = 0; points 4 3 2;");
        x.pairRound();
        Check.same("redOf(0)", x.redOf(0), 0);
        x.tell(0, 0);
        Check.same("ruledOutcome(0) is told of now", x.ruledOutcome(0), 2);
        x.pairRound();
        Check.same("redOf(0)", x.redOf(0), 1);
        Check.same("ruledOutcome(0)", x.ruledOutcome(0), 0);
        x.tell(0, 0);
        Check.same("ruledOutcome(0), points are those of now", x.ruledOutcome(0), 1);
        BeltRounds y = Check.taught(TWO + "wrestler c strength 1;"
                + "rule red wins when rest red = 1 and rest blue = 0 and points red = 2;"
                + "rule blue wins when rest blue = 1 and rest red = 0 and points blue = 2;");
        y.pairRound();
        Check.same("restingOne()", y.restingOne(), 2);
        Check.same("ruledOutcome(0), neither has rested", y.ruledOutcome(0), 1);
        y.tell(0, 1);
        y.pairRound();
        Check.same("restingOne()", y.restingOne(), 1);
        Check.same("ruledOutcome(0), c has rested", y.ruledOutcome(0), y.redOf(0) == 2 ? 0 : 2);
    }
}
