/** The boundary cases of the tape and its language, sentence by sentence: "Terms", part 1, and promises 1 to 5. */
final class LanguageEdges {
    private static final String WHEN = "rule draw when ";
    private static final String TWO = "wrestler a strength 5; wrestler b strength 3;";
    // Neither of them needs a sum that wraps around.
    private static final String GREATEST = "(32767 * 65536 + 65535)";
    private static final String LEAST = "(-32768 * 65536)";
    private static final String KEYWORDS = "wrestler strength points draw rest rule red blue wins when round won met "
            + "belts floats not and or min max";

    private LanguageEdges() {
    }

    static void run() {
        wrapping();
        dividing();
        positions();
        tape();
        blanks();
        longestToken();
        words();
        numbers();
        symbolsAndKeywords();
        grammar();
        depth();
        errorOne();
        tokens401();
        errorsInOrder();
        errorTwo();
        errorFour();
        errorFive();
        numbering();
        worth();
        newObject();
        feeding();
        trimming();
        teaching();
        errorPositions();
    }

    private static void fits(String text) {
        Check.error(text, 0, -1);
    }

    private static void unfit(String text, int at) {
        Check.error(text, 1, at);
    }

    /** Whether a test holds in the first bout of a (red, strength 5) and b (blue, strength 3). */
    private static void test(String test, boolean due) {
        BeltRounds x = Check.taught(TWO + "rule red wins when " + test + "; rule blue wins;");
        x.pairRound();
        Check.same(test, x.ruledOutcome(0), due ? 0 : 2);
    }

    private static void equal(String sum, String due) {
        test(sum + " = " + due, true);
        test(sum + " < " + due, false);
        test(sum + " > " + due, false);
    }

    private static void wrapping() {
        Edge.says("Terms", "sums, differences and products of the language wrap around in 32 bits");
        equal(GREATEST + " - 1 + 1", GREATEST);
        test(GREATEST + " - 1 < " + GREATEST, true);
        test(GREATEST + " > 0", true);
        equal(GREATEST + " + 1", LEAST);
        test(GREATEST + " + 1 < 0", true);
        equal(LEAST + " + 1 - 1", LEAST);
        test(LEAST + " + 1 > " + LEAST, true);
        equal(LEAST + " - 1", GREATEST);
        test(LEAST + " - 1 > 0", true);
        // 46340 * 46340 is 2147395600, 46341 * 46341 is 2147488281.
        equal("46340 * 46340", GREATEST + " - 88047");
        equal("46341 * 46341", LEAST + " + 4633");
        equal("65535 * 65537", "-1");
        equal("65536 * 65536", "0");
        equal("65536 * 32767", GREATEST + " - 65535");
        equal("65536 * 32768", LEAST);
        equal("-65536 * 32768", LEAST);
        equal(GREATEST + " * 2", "-2");
        equal(LEAST + " * -1", LEAST);
        equal("-" + LEAST, LEAST);
        equal("-" + GREATEST, LEAST + " + 1");
        equal("0 - " + LEAST, LEAST);
        equal("-1 - " + LEAST, GREATEST);
        // Comparisons, min and max look at the numbers themselves, not at a difference.
        test(LEAST + " < 1", true);
        test(LEAST + " <= " + GREATEST, true);
        test(LEAST + " > 1", false);
        test(LEAST + " >= " + GREATEST, false);
        test(GREATEST + " > -1", true);
        test(GREATEST + " < -1", false);
        equal("min(" + LEAST + ", " + GREATEST + ")", LEAST);
        equal("max(" + LEAST + ", " + GREATEST + ")", GREATEST);
        equal("min(1, " + LEAST + ")", LEAST);
        equal("max(-2, " + GREATEST + ")", GREATEST);
    }

    private static void dividing() {
        Edge.says("Terms", "/ is cut towards 0");
        equal("2 / 2", "1");
        equal("1 / 2", "0");
        equal("-1 / 2", "0");
        equal("1 / -2", "0");
        equal("-1 / -2", "0");
        equal("-2 / 2", "-1");
        equal("3 / 2", "1");
        equal("-3 / 2", "-1");
        equal("3 / -2", "-1");
        equal("-3 / -2", "1");
        equal("0 / 7", "0");
        Edge.says("Terms", "gives 0 with 0 on the right side");
        equal("7 / 1", "7");
        equal("7 / 0", "0");
        equal("-7 / 0", "0");
        equal("7 / -1", "-7");
        equal("0 / 0", "0");
        equal("7 / (3 - 3)", "0");
        equal("7 / -0", "0");
        equal("7 / 0 + 1", "1");
        equal(LEAST + " / 0", "0");
        equal(GREATEST + " / 0", "0");
        equal("strength red / rest blue", "0");
        Edge.says("Terms", "-2147483648 / -1 gives -2147483648");
        equal(LEAST + " / -1", LEAST);
        equal("(" + LEAST + " + 1) / -1", GREATEST);
        equal(LEAST + " / 1", LEAST);
        equal(LEAST + " / -2", "16384 * 65536");
        equal(GREATEST + " / -1", LEAST + " + 1");
    }

    private static void positions() {
        Edge.says("Terms", "Positions of the tape are counted from 0, in bytes.");
        unfit("?", 0);
        unfit(" ?", 1);
        unfit("\n?", 1);
        unfit(" \n?", 2);
        unfit(";", 0);
        unfit("rule \u00ff", 5);
        unfit("\u00ff\u00ff", 0);
        unfit("rule draw;\n\n\n?", 13);
    }

    private static BeltRounds fed(String text) {
        BeltRounds x = new BeltRounds();
        Check.feed(x, text);
        return x;
    }

    private static void tape() {
        Edge.says("Terms", "The tape is a row of at most 2000 bytes, at first empty, which feed and trim fill; "
                + "teach reads it as a tournament, and it is empty behind it.");
        Check.same("tapeBytes() of a new object", new BeltRounds().tapeBytes(), 0);
        Check.same("teach() of a new object", new BeltRounds().teach(), 0);
        // Each of 2000 bytes counts, also the first and the last one.
        String blanks = " ".repeat(1990);
        fits(blanks + "rule draw;");
        Check.same("rules()", Check.taught(blanks + "rule draw;").rules(), 1);
        Check.same("rules()", Check.taught("rule draw;" + blanks).rules(), 1);
        unfit(blanks + "rule draw?", 1999);
        unfit(blanks + " rule draw", 2000);
        unfit("rule draw" + blanks + " ", 2000);
        unfit(" ".repeat(1999) + "?", 1999);
        unfit("?" + " ".repeat(1999), 0);
        fits("\n".repeat(2000));
        BeltRounds full = fed(blanks + "rule draw;");
        Check.same("tapeBytes()", full.tapeBytes(), 2000);
        Check.noState("feed() of more than 2000", () -> full.feed(0, 0, 0, 0, 0));
        Check.same("teach()", full.teach(), 0);
        Check.same("tapeBytes() behind teach()", full.tapeBytes(), 0);
        Check.same("feed() behind teach()", full.feed(0, 0, 0, 0, 0), 20);
        Check.same("teach() of an error", full.teach(), 1);
        Check.same("tapeBytes() behind an error", full.tapeBytes(), 0);
        Check.same("teach() of an empty tape", full.teach(), 0);
        Check.same("rules() of an empty tape", full.rules(), 0);
    }

    private static void blanks() {
        Edge.says("Terms", "Blanks (32) and line ends (10) can stand between tokens, at the beginning and at the end");
        for (int b = 0; b < 256; b++) {
            String sign = String.valueOf((char) b);
            boolean blank = b == 32 || b == 10;
            Check.error(sign + "rule draw;", blank ? 0 : 1, blank ? -1 : 0);
            Check.error("rule draw;" + sign, blank ? 0 : 1, blank ? -1 : 10);
            Check.error("rule" + sign + "draw;", blank ? 0 : 1, blank ? -1 : isInWord(b) ? 0 : 4);
        }
        fits(" \n \n");
        fits("rule draw  \n when\n(  1\n+ 2 )  <=\n3 and [ not\nmet\n]\n;\n");
        fits("rule draw when(1+2)<=3and[not met];");
        Edge.says("Terms", "and have to stand between two tokens that would otherwise be read as one");
        unfit("ruledraw;", 0);
        fits("wrestler a strength 5;");
        unfit("wrestlera strength 5;", 0);
        unfit("wrestler astrength 5;", 19);
        unfit("wrestler a strength5;", 11);
        fits("points 1 2 3;");
        unfit("points 1 23;", 11);
        unfit("points1 2 3;", 0);
        fits(WHEN + "1 <= 2;");
        unfit(WHEN + "1 < = 2;", 19);
        unfit(WHEN + "1 >\n= 2;", 19);
        // A number and a word, and all beside a symbol, are two tokens by themselves.
        fits(WHEN + "1=1and 2=2or 3<4and-1>-(2)or[met]and not[met];");
        unfit(WHEN + "1=1and2=2;", 18);
        unfit(WHEN + "1=1or3=3;", 18);
    }

    private static boolean isInWord(int b) {
        return b >= 'a' && b <= 'z' || b >= '0' && b <= '9';
    }

    private static void longestToken() {
        Edge.says("Terms", "The longest possible token is always read.");
        fits(WHEN + "1<=2;");
        test("2<=2", true);
        test("2>=2", true);
        test("2<2", false);
        unfit(WHEN + "1<==2;", 18);
        unfit(WHEN + "1>==2;", 18);
        unfit(WHEN + "1=<2;", 17);
        unfit(WHEN + "1=>2;", 17);
        unfit(WHEN + "1<>2;", 17);
        unfit(WHEN + "notmet;", 15);
        unfit(WHEN + "1 = maxi(1, 2);", 19);
        fits("wrestler rulered strength 5;");
        Check.error("points 123 4 5;", 5, 7);
        unfit("points 123;", 10);
        // What stood behind the end of the tape is no part of a token.
        BeltRounds x = fed("rule draw when 1 = 12;");
        x.trim(20);
        Check.feed(x, ";");
        Check.same("teach() of what was trimmed", x.teach(), 0);
        BeltRounds y = fed("rule draw;");
        y.trim(8);
        Check.same("teach() of what was trimmed", y.teach(), 1);
        Check.same("errorAt()", y.errorAt(), 5);
        BeltRounds z = fed("rule draw when 1 <= 1;");
        z.trim(18);
        Check.same("teach() of what was trimmed", z.teach(), 1);
        Check.same("errorAt()", z.errorAt(), 18);
    }

    private static void words() {
        Edge.says("Terms", "A word: a letter a to z, followed by letters a to z and digits, at most 10 bytes.");
        for (int b = 0; b < 256; b++) {
            char c = (char) b;
            boolean blank = b == 32 || b == 10;
            boolean begins = b >= 'a' && b <= 'z';
            Check.error("wrestler " + c + " strength 5;", begins ? 0 : 1, begins ? -1 : blank ? 11 : 9);
            boolean goesOn = blank || isInWord(b);
            Check.error("wrestler a" + c + " strength 5;", goesOn ? 0 : 1, goesOn ? -1 : 10);
        }
        for (int length = 1; length <= 13; length++) {
            String letters = "wrestler " + "q".repeat(length) + " strength 5;";
            String digits = "wrestler z" + "9".repeat(length - 1) + " strength 5;";
            Check.error(letters, length <= 10 ? 0 : 1, length <= 10 ? -1 : 9);
            Check.error(digits, length <= 10 ? 0 : 1, length <= 10 ? -1 : 9);
        }
        unfit("wrestler " + "q".repeat(1900) + " strength 5;", 9);
        unfit("wrestler " + "q".repeat(1991), 9);
        // Ten of eleven bytes are on the tape.
        BeltRounds x = fed("wrestler abcdefghijk");
        x.trim(19);
        Check.feed(x, " strength 5;");
        Check.same("teach() of ten bytes", x.teach(), 0);
    }

    private static void numbers() {
        Edge.says("Terms", "A number: 1 to 6 digits.");
        for (int digits = 1; digits <= 9; digits++) {
            String number = "0".repeat(digits - 1) + "5";
            boolean right = digits <= 6;
            Check.error("wrestler a strength " + number + ";", right ? 0 : 1, right ? -1 : 20);
            Check.error("points 1 " + number + " 2;", right ? 0 : 1, right ? -1 : 9);
            Check.error(WHEN + "1 < " + number + ";", right ? 0 : 1, right ? -1 : 19);
        }
        equal("999999 - 999998", "1");
        equal("000010", "10");
        unfit(WHEN + "1 < 1000000;", 19);
        unfit(WHEN + "1 < " + "7".repeat(1900) + ";", 19);
        for (int b = 0; b < 256; b++) {
            boolean goesOn = b == 32 || b == 10 || b >= '0' && b <= '9';
            int at = b == ';' ? 22 : 21;
            Check.error("wrestler a strength 5" + (char) b + ";", goesOn ? 0 : 1, goesOn ? -1 : at);
        }
    }

    private static void symbolsAndKeywords() {
        Edge.says("Terms", "Symbols: ( ) [ ] ; , + - * / < > = <= >=");
        for (int b = 0; b < 256; b++) {
            boolean joins = "+-*/".indexOf(b) >= 0;
            boolean compares = "<>=".indexOf(b) >= 0;
            boolean blank = b == 32 || b == 10;
            int at = joins ? -1 : compares ? 21 : blank ? 19 : 17;
            Check.error(WHEN + "1 " + (char) b + " 1 = 1;", joins ? 0 : 1, at);
        }
        fits(WHEN + "1<2 and 1>2 and 1=2 and 1<=2 and 1>=2 and [min(1,2) = (1)];");
        Edge.says("Terms", "The keywords are: wrestler strength points draw rest rule red blue wins when round won met "
                + "belts floats not and or min max.");
        for (String keyword : KEYWORDS.split(" ")) {
            unfit("wrestler " + keyword + " strength 5;", 9);
        }
        Edge.says("Terms", "All other words are names.");
        for (String keyword : KEYWORDS.split(" ")) {
            fits("wrestler " + keyword.substring(0, keyword.length() - 1) + " strength 5;");
            fits("wrestler " + keyword + "s strength 5;");
            fits("wrestler " + keyword + "0 strength 5;");
            fits("wrestler a" + keyword + " strength 5;");
        }
        unfit("name a strength 5;", 0);
        unfit("rule green wins;", 5);
    }

    private static void grammar() {
        Edge.says("Terms", "[ x ] outside of quotation marks means x or nothing, "
                + "{ x } x any number of times, also none, and | separates alternatives");
        // Lines: none, one, many, and nothing between two of them.
        fits("");
        fits("rule draw;");
        fits("rule draw;rule draw;points 1 1 1;wrestler a strength 5;");
        unfit("rule draw;;", 10);
        unfit(";rule draw;", 0);
        unfit("rule draw", 9);
        unfit("rule draw rule draw;", 10);
        // "when" with a test, or nothing.
        fits("rule red wins;");
        fits("rule red wins when met;");
        unfit("rule red wins when;", 18);
        unfit("rule red wins met;", 14);
        unfit("rule red wins when met when met;", 23);
        // "or", "and", + and - and * and /: none, one, many, and one too many.
        for (String sign : new String[] {"or", "and"}) {
            fits(WHEN + "met " + sign + " met;");
            fits(WHEN + "met" + (" " + sign + " met").repeat(90) + ";");
            unfit(WHEN + "met " + sign + ";", 19 + sign.length());
            unfit(WHEN + sign + " met;", 15);
            unfit(WHEN + "met " + sign + " " + sign + " met;", 20 + sign.length());
        }
        for (String sign : new String[] {"+", "-", "*", "/"}) {
            fits(WHEN + "1 " + sign + " 1 = 1;");
            fits(WHEN + "1 = 1" + (sign + "1").repeat(190) + ";");
            unfit(WHEN + "1 " + sign + " = 1;", 19);
            unfit(WHEN + "1 = 1 " + sign + ";", 22);
        }
        unfit(WHEN + "+1 = 1;", 15);
        unfit(WHEN + "1 * + 1 = 1;", 19);
        fits(WHEN + "1 * - 1 = 1;");
        // A comparison has just two sums, min and max have just two, points have just three numbers.
        unfit(WHEN + "1;", 16);
        unfit(WHEN + "1 = 1 = 1;", 21);
        unfit(WHEN + "min(1) = 1;", 20);
        unfit(WHEN + "max(1, 1, 1) = 1;", 23);
        unfit(WHEN + "min() = 1;", 19);
        unfit(WHEN + "min 1 = 1;", 19);
        unfit("points 1 2;", 10);
        unfit("points 1 2 3 4;", 13);
        unfit("points;", 6);
        // [ ] are of tests, ( ) are of sums.
        unfit(WHEN + "(met);", 16);
        unfit(WHEN + "(1 = 1);", 18);
        unfit(WHEN + "[1] = 1;", 17);
        unfit(WHEN + "[];", 16);
        unfit(WHEN + "1 = ();", 20);
        for (String side : new String[] {"red", "blue"}) {
            for (String of : new String[] {"strength", "won", "belts", "floats", "rest", "points"}) {
                fits(WHEN + of + " " + side + " = 1;");
                unfit(WHEN + of + " = 1;", 16 + of.length());
            }
            unfit(WHEN + "round " + side + " = 1;", 21);
            fits("rule " + side + " wins;");
            unfit("rule " + side + ";", 5 + side.length());
        }
        unfit("rule draw wins;", 10);
        missingParts();
        comparisons();
    }

    /** What stands behind a part that misses its end is told, and does not end it. */
    private static void missingParts() {
        unfit(WHEN + "not;", 18);
        unfit(WHEN + "not not;", 22);
        unfit(WHEN + "not and met;", 19);
        unfit(WHEN + "not or met;", 19);
        unfit(WHEN + "[not];", 19);
        unfit(WHEN + "not = 1;", 19);
        unfit(WHEN + "[met and];", 23);
        unfit(WHEN + "[met;", 19);
        unfit(WHEN + "[met and met;", 27);
        unfit(WHEN + "met];", 18);
        unfit(WHEN + "min = 1;", 19);
        unfit(WHEN + "min( = 1;", 20);
        unfit(WHEN + "min(1 = 1;", 21);
        unfit(WHEN + "min(1, = 1;", 22);
        unfit(WHEN + "max(1, 1 = 1;", 24);
        unfit(WHEN + "max(, 1) = 1;", 19);
        unfit(WHEN + "- = 1;", 17);
        unfit(WHEN + "(1 = 1;", 18);
        unfit(WHEN + "(1 + = 1;", 20);
        unfit(WHEN + "1) = 1;", 16);
        unfit(WHEN + "1 =;", 18);
        unfit(WHEN + "= 1;", 15);
        unfit(WHEN + "1 < 1 <;", 21);
        unfit("wrestler a strength 5, wrestler b strength 5;", 21);
        unfit("wrestler strength 5;", 9);
        unfit("wrestler a 5;", 11);
        unfit("wrestler a strength;", 19);
        unfit("wrestler a strength b;", 20);
        unfit("wrestler 5 strength 5;", 9);
        unfit("points a b c;", 7);
        unfit("points 1, 1, 1;", 8);
        unfit("points -1 1 1;", 7);
        unfit("rule;", 4);
        unfit("rule when met;", 5);
        unfit("rule red wins draw;", 14);
        // Each beginning of a tournament is one: its end is told, and what cannot stand behind it.
        String[] tokens = ("wrestler a strength 5 ; points 1 2 3 ; rule draw ; rule red wins when not [ met or "
                + "round <= - 1 ] and min ( won red , ( belts blue - 2 ) * 3 ) > points red / max ( rest red , floats blue ) + 7 ; "
                + "rule blue wins when strength red = 1 ;").split(" ");
        StringBuilder text = new StringBuilder();
        for (String token : tokens) {
            text.append(token);
            boolean whole = token.equals(";");
            Check.error(text.toString(), whole ? 0 : 1, whole ? -1 : text.length());
            unfit(text + " ?", text.length() + 1);
            text.append(' ');
        }
    }

    private static void comparisons() {
        Edge.says("Terms", "sum ( \"<\" | \">\" | \"=\" | \"<=\" | \">=\" ) sum");
        String[] signs = {"<", ">", "=", "<=", ">="};
        for (int more = -1; more <= 1; more++) {
            boolean[] due = {more < 0, more > 0, more == 0, more <= 0, more >= 0};
            for (int i = 0; i < signs.length; i++) {
                String comparison = 5 + more + " " + signs[i] + " 5";
                test(comparison, due[i]);
                test("not " + comparison, !due[i]);
                test("not not " + comparison, due[i]);
                test(comparison + " and " + comparison, due[i]);
                test(comparison + " and not met", due[i]);
                test("not met and " + comparison, due[i]);
                test(comparison + " or met", due[i]);
                test("met or " + comparison, due[i]);
                test("not [" + comparison + " or " + comparison + "]", !due[i]);
                test("not [" + comparison + " and not met]", !due[i]);
            }
        }
    }

    private static void depth() {
        Edge.says("Terms", "It may be at most 8.");
        String[][] kinds = {{"(", "1", ")", " = 1"}, {"-", "1", "", " = 1"}, {"[", "met", "]", ""},
            {"not ", "met", "", ""}, {"min(", "1", ",1)", " = 1"}, {"max(1,", "1", ")", " = 1"}};
        for (String[] kind : kinds) {
            for (int depth = 0; depth <= 10; depth++) {
                String text = WHEN + kind[0].repeat(depth) + kind[1] + kind[2].repeat(depth) + kind[3] + ";";
                // The ninth one; of min( and max( it is the bracket.
                int ninth = 15 + 8 * kind[0].length() + Math.max(kind[0].indexOf('('), 0);
                Check.error(text, depth <= 8 ? 0 : 1, depth <= 8 ? -1 : ninth);
            }
        }
        fits(WHEN + "[not [not -(-min(1, 2)) = 1]];");
        unfit(WHEN + "[not [not [not -(-min(1, 2)) = 1]]];", 32);
        Edge.says("Terms", "It is 0 at the beginning, and 1 greater between a ( and its ), a [ and its ], "
                + "behind a - in front (of a value) for what it turns, and behind a not for what it turns.");
        String eight = "((((((((1))))))))";
        String seven = "(((((((1)))))))";
        // It is 0 again behind what it was greater for, in the next test, and in the next rule.
        fits(WHEN + eight + " + " + eight + " = " + eight + ";");
        fits(WHEN + "[[[[[[[[met]]]]]]]] and [[[[[[[[met]]]]]]]] or [[[[[[[[met]]]]]]]];");
        fits(WHEN + eight + " = 1; " + WHEN + eight + " = 1;");
        unfit(WHEN + "(" + eight + " + 1) = 1;", 23);
        fits(WHEN + "(" + seven + " + " + seven + ") = 1;");
        unfit(WHEN + "(" + seven + " + " + eight + ") = 1;", 41);
        // min and max: both sums are one deeper.
        fits(WHEN + "min(" + seven + ", " + seven + ") = " + eight + ";");
        unfit(WHEN + "min(" + eight + ", 1) = 1;", 26);
        unfit(WHEN + "max(1, " + eight + ") = 1;", 29);
        // - in front: only the value behind it; between two values it is no deeper.
        fits(WHEN + "-" + seven + " + " + eight + " = 1;");
        unfit(WHEN + "-" + eight + " = 1;", 23);
        fits(WHEN + "-1 * " + eight + " = 1;");
        fits(WHEN + "1 - " + eight + " - -" + seven + " = 1;");
        unfit(WHEN + "1 - -" + eight + " = 1;", 27);
        // not: the whole comparison or brackets behind it, but not what and or or joins.
        fits(WHEN + "not " + seven + " = " + seven + ";");
        unfit(WHEN + "not " + eight + " = 1;", 26);
        unfit(WHEN + "not 1 = " + eight + ";", 30);
        unfit(WHEN + "not 1 + " + eight + " = 1;", 30);
        fits(WHEN + "not met and " + eight + " = 1;");
        fits(WHEN + "not met or " + eight + " = 1;");
        unfit(WHEN + "not [met and " + seven + " = 1];", 34);
        fits(WHEN + "not [met] and [[[[[[[[met]]]]]]]];");
        // Sums in tests in brackets.
        fits(WHEN + "[[[[[[[[1 = 1]]]]]]]];");
        unfit(WHEN + "[[[[[[[[(1) = 1]]]]]]]];", 23);
        unfit(WHEN + "[[[[[[[[1 = -1]]]]]]]];", 27);
        unfit(WHEN + "[[[[[[[[not met]]]]]]]];", 23);
        fits(WHEN + "[[[[[[[[1 - 1 = 1]]]]]]]];");
    }

    private static void errorOne() {
        Edge.says("Terms", "Error 1: the first token with which the tokens so far are not the beginning of a "
                + "tournament.");
        unfit("rule rule ? draw draw", 5);
        unfit("rule draw; draw ?", 11);
        unfit("wrestler a b c strength 5;", 11);
        Edge.says("Terms", "This includes a byte with which no token begins");
        for (String sign : new String[] {"?", "!", ".", ":", "\"", "'", "{", "}", "_", "A", "Z", "\t", "\r", "\u0000"}) {
            unfit("rule draw;" + sign, 10);
            unfit("rule " + sign + "draw;", 5);
        }
        Edge.says("Terms", "a word or number that is too long, the end of the tape (at its length)");
        unfit("rulerulerul draw;", 0);
        unfit("rule draw; rulerulerul draw;", 11);
        unfit("points 1 2 0000003;", 11);
        unfit("rule", 4);
        unfit("rule   ", 7);
        unfit("rule\n", 5);
        unfit(WHEN + "1 < ", 19);
        for (int length = 1; length < TWO.length(); length++) {
            BeltRounds x = fed(TWO);
            x.trim(length);
            boolean whole = TWO.substring(0, length).trim().endsWith(";");
            // A word that is cut short, but for a name, begins no tournament.
            int from = Math.max(TWO.lastIndexOf(' ', length - 1), TWO.lastIndexOf(';', length - 1)) + 1;
            String last = TWO.substring(from, length);
            boolean cut = !last.isEmpty() && !last.equals("wrestler") && !last.equals("strength")
                    && last.length() > 1 || last.equals("w") || last.equals("s");
            Check.same("teach() of " + length + " bytes", x.teach(), whole ? 0 : 1);
            Check.same("errorAt() of " + length + " bytes", x.errorAt(), whole ? -1 : cut ? from : length);
        }
        Edge.says("Terms", "The position is that of its first byte.");
        unfit("rule draw; wrestlers a strength 5;", 11);
        unfit(WHEN + "1 <= <= 1;", 20);
        unfit("wrestler abcdefghijk strength 5;", 9);
        unfit("points 1 1 12345678;", 11);
    }

    /** That many lines of five tokens and thirteen bytes. */
    private static String fives(int lines) {
        return "points 1 2 3;".repeat(lines);
    }

    private static void tokens401() {
        Edge.says("Terms", "the (, [, - or not behind which the depth would be 9, and the token that would be the 401st "
                + "(the end of the tape not counted)");
        // 399, 400 and 401 tokens.
        fits(fives(77) + "rule draw;rule draw;rule red wins;rule red wins;");
        fits(fives(80));
        fits(fives(80) + " \n");
        fits(fives(78) + "rule draw;rule draw;rule blue wins;");
        String more = fives(79) + "rule draw;rule draw;";
        unfit(more, more.length() - 1);
        // The 401st is told, whatever it is.
        for (String next : new String[] {"rule draw;", ";", "?", "1234567", "x", "((", "\u00ff"}) {
            unfit(fives(80) + next, 1040);
            unfit(fives(80) + "\n " + next, 1042);
        }
        // With 400 tokens the tape may also end too early: that is at its length.
        unfit(fives(79) + "rule draw when 1 =", 1045);
        unfit(fives(79) + "rule draw when 1 =  ", 1047);
        unfit(fives(79) + "rule draw when 1 =  1", 1047);
        unfit(fives(79) + "rule draw when not ?", 1046);
        // Ahead of the 401st another one is told.
        unfit(fives(79) + "rule draw when ((; rule draw;", 1044);
        unfit("rule; " + fives(85), 4);
    }

    private static final String FULL = Edge.many(12) + "rule draw;".repeat(16);

    private static void errorsInOrder() {
        Edge.says("Terms", "Only if there is no error 1, keywords, names and numbers are looked at from left to right, "
                + "and the first error is told, at its token; of errors at one token the one with the smallest number.");
        // Each pair of errors, in both orders; behind 12 wrestlers and 16 rules.
        String[] lines = {"wrestler w11 strength 5;", "wrestler new strength 5;", "rule draw;", "points 1 10 1;"};
        int[] errors = {2, 4, 4, 5};
        int[] places = {9, 9, 0, 9};
        for (int i = 0; i < lines.length; i++) {
            for (String second : lines) {
                int at = FULL.length() + places[i];
                Check.error(FULL + lines[i] + second, errors[i], at);
                // Not if there is an error 1, be it at the very end.
                unfit(FULL + lines[i] + second + "?", (FULL + lines[i] + second).length());
                unfit(FULL + lines[i] + "rule", (FULL + lines[i] + "rule").length());
            }
            unfit(FULL + lines[i] + WHEN + "---------1 = 1;", (FULL + lines[i] + WHEN).length() + 8);
            unfit(fives(80) + lines[i], 1040);
        }
        Check.error("wrestler a strength 0; wrestler a strength 5;", 5, 20);
        Check.error("wrestler a strength 5; wrestler a strength 0;", 2, 32);
        Check.error("points 10 11 12;", 5, 7);
        // One token: the 13th wrestler has a name that is known, or the number behind it is wrong as well.
        Check.error(Edge.many(12) + "wrestler w0 strength 5;", 2, Edge.many(12).length() + 9);
        Check.error(Edge.many(12) + "wrestler w12 strength 0;", 4, Edge.many(12).length() + 9);
        Check.error(Edge.many(12) + "wrestler w12 strength 5;", 4, Edge.many(12).length() + 9);
    }

    private static void errorTwo() {
        Edge.says("Terms", "Error 2: the name behind wrestler is that of a wrestler told ahead.");
        Check.error("wrestler a strength 5; wrestler a strength 6;", 2, 32);
        Check.error("wrestler a strength 5; wrestler b strength 5; wrestler a strength 5;", 2, 55);
        Check.error("wrestler a strength 5; wrestler b strength 5; wrestler b strength 5;", 2, 55);
        fits("wrestler a strength 5; wrestler b strength 5;");
        fits("wrestler a strength 5; wrestler aa strength 5; wrestler aaa strength 5;");
        fits("wrestler aaa strength 5; wrestler aa strength 5; wrestler a strength 5;");
        fits("wrestler abcdefghij strength 5; wrestler abcdefghik strength 5;");
        fits("wrestler abcdefghij strength 5; wrestler bbcdefghij strength 5;");
        fits("wrestler a0 strength 5; wrestler a00 strength 5; wrestler a1 strength 5;");
        // What stands beside a name is no part of it.
        Check.error("wrestler a strength 5; wrestler a\nstrength 5;", 2, 32);
        Check.error("wrestler a strength 5; wrestler\na strength 5;", 2, 32);
        Check.error("wrestler a\nstrength 5; wrestler\na strength 5;", 2, 32);
        Check.error("wrestler abcdefghij strength 5; wrestler abcdefghij strength 5;", 2, 41);
        String twelve = Edge.many(11) + "wrestler w10 strength 5;";
        Check.error(twelve, 2, Edge.many(11).length() + 9);
        // Those of the tournament before do not count.
        BeltRounds x = Check.taught(TWO);
        Check.same("teach() of the same names", Check.teach(x, TWO), 0);
        Check.same("teach() of a name twice", Check.teach(x, TWO + TWO), 2);
        Check.same("teach() behind an error", Check.teach(x, TWO), 0);
    }

    private static void errorFour() {
        Edge.says("Terms", "Error 4: the name of the 13th wrestler, or the rule of the 17th rule.");
        for (int n = 11; n <= 14; n++) {
            Check.error(Edge.many(n), n <= 12 ? 0 : 4, n <= 12 ? -1 : Edge.many(12).length() + 9);
        }
        for (int n = 15; n <= 18; n++) {
            Check.error("rule draw;".repeat(n), n <= 16 ? 0 : 4, n <= 16 ? -1 : 160);
        }
        Check.same("wrestlers()", Check.taught(FULL).wrestlers(), 12);
        Check.same("rules()", Check.taught(FULL).rules(), 16);
        // Lines between them do not matter; those of points have no limit of their own.
        Check.error("rule draw; points 1 1 1;".repeat(16) + "rule red wins when met;", 4, 384);
        Check.error("points 1 1 1;" + Edge.many(12) + "rule draw; wrestler x strength 5;",
                4, 13 + Edge.many(12).length() + 20);
        fits(fives(60));
        // All 16 rules are asked: the last one is that without a test.
        BeltRounds x = Check.taught(TWO + "rule draw when met;".repeat(15) + "rule blue wins;");
        x.pairRound();
        Check.same("ruledOutcome(0) by the 16th rule", x.ruledOutcome(0), 2);
    }

    private static void errorFive() {
        Edge.says("Terms", "Error 5: the number behind strength is not 1 to 999, or a number behind points is not 0 to "
                + "9.");
        for (int strength : new int[] {0, 1, 2, 998, 999, 1000, 999999}) {
            boolean right = strength >= 1 && strength <= 999;
            String text = "wrestler a strength " + strength + ";";
            Check.error(text, right ? 0 : 5, right ? -1 : 20);
            if (right) {
                Check.same("strengthOf(0)", Check.taught(text).strengthOf(0), strength);
            }
        }
        Check.error("wrestler a strength 000000;", 5, 20);
        fits("wrestler a strength 000001;");
        fits("wrestler a strength 000999;");
        Check.error("wrestler a strength 001000;", 5, 20);
        for (int place = 0; place < 3; place++) {
            for (int number : new int[] {0, 1, 8, 9, 10, 99, 999999}) {
                int[] numbers = {5, 5, 5};
                numbers[place] = number;
                String text = "points " + numbers[0] + " " + numbers[1] + " " + numbers[2] + ";";
                Check.error(text, number <= 9 ? 0 : 5, number <= 9 ? -1 : 7 + 2 * place);
            }
        }
        fits("points 000009 000000 000009;");
        Check.error("points 000009 000010 0;", 5, 14);
        // A number in a sum may be any, a wrong line of points is told even if a right one follows.
        fits(WHEN + "0 = 999999;");
        Check.error("points 1 1 10; points 1 1 1;", 5, 11);
    }

    private static void numbering() {
        Edge.says("Terms", "Wrestlers and rules are numbered from 0 in the order in which they are told.");
        BeltRounds x = Check.taught(Edge.many(12));
        Check.same("strengthOf(0)", x.strengthOf(0), 100);
        Check.same("strengthOf(11)", x.strengthOf(11), 89);
        BeltRounds y = Check.taught("rule draw; wrestler zoe strength 1; points 1 1 1; wrestler ann strength 2;"
                + "rule red wins; wrestler moe strength 3;");
        Edge.each("strengthOf", y::strengthOf, 1, 2, 3);
        y.pairRound();
        Check.same("ruledOutcome(0)", y.ruledOutcome(0), 1);
    }

    /** Points of a (red), b (blue) and c, who rests, behind an outcome of the first bout. */
    private static void worthOf(String text, int outcome, int a, int b, int c) {
        BeltRounds x = Check.taught(text);
        x.pairRound();
        x.tell(0, outcome);
        Edge.each(text + " pointsOf", x::pointsOf, a, b, c);
    }

    private static void worth() {
        Edge.says("Terms", "A win is worth the first number of the latest line of points, a draw the second one, "
                + "a rest the third one; 2, 1 and 2 without such a line.");
        String three = TWO + "wrestler c strength 1;";
        worthOf(three, 0, 2, 0, 2);
        worthOf(three, 1, 1, 1, 2);
        worthOf(three, 2, 0, 2, 2);
        worthOf(three + "points 0 0 0;", 0, 0, 0, 0);
        worthOf(three + "points 0 0 0;", 1, 0, 0, 0);
        worthOf(three + "points 9 8 7;", 0, 9, 0, 7);
        worthOf(three + "points 9 8 7;", 1, 8, 8, 7);
        worthOf("points 9 8 7;" + three, 2, 0, 9, 7);
        worthOf("points 9 8 7;" + three + "points 3 2 1;", 1, 2, 2, 1);
        worthOf("points 9 8 7;" + three + "points 3 2 1; points 6 5 4; rule draw;", 0, 6, 0, 4);
        // Without a line it is 2, 1 and 2 again, also behind a tournament with one.
        BeltRounds x = Check.taught(three + "points 9 8 7;");
        Check.teach(x, three + "points 4 4 10;");
        x.pairRound();
        x.tell(0, 0);
        Edge.each("pointsOf, behind an error in points", x::pointsOf, 9, 0, 7);
        Check.teach(x, three);
        x.pairRound();
        x.tell(0, 1);
        Edge.each("pointsOf", x::pointsOf, 1, 1, 2);
    }

    private static void newObject() {
        Edge.says("Promise 1", "Creates a tournament without wrestlers and rules.");
        Object[][] due = {{0, (Edge.Act) BeltRounds::wrestlers}, {0, (Edge.Act) BeltRounds::wrestlersIn},
            {0, (Edge.Act) BeltRounds::rules}, {0, (Edge.Act) BeltRounds::rounds},
            {0, (Edge.Act) BeltRounds::tapeBytes}, {0, (Edge.Act) BeltRounds::bouts},
            {0, (Edge.Act) BeltRounds::openBouts}, {-1, (Edge.Act) BeltRounds::errorAt},
            {0.0, (Edge.Act) BeltRounds::meanPoints}, {Edge.NO_STATE, (Edge.Act) BeltRounds::restingOne},
            {Edge.NO_STATE, (Edge.Act) BeltRounds::pairRound}, {Edge.NO_STATE, (Edge.Act) BeltRounds::tellByRules},
            {Edge.NO_STATE, (Edge.Act) BeltRounds::nextRematches},
            {Edge.NO_STATE, (Edge.Act) y -> y.leaderAfter(1)}, {0, (Edge.Act) y -> y.trim(0)},
            {20, (Edge.Act) y -> y.feed(0, 0, 0, 0, 0)}, {0, (Edge.Act) BeltRounds::teach}};
        for (int i = 0; i < due.length; i++) {
            BeltRounds x = new BeltRounds();
            Edge.Act call = (Edge.Act) due[i][1];
            Check.same("call " + i + " of a new object", Check.answerOf(() -> call.on(x)), due[i][0]);
        }
        // One object knows nothing of another one.
        Check.taught(FULL).pairRound();
        Check.same("wrestlers() of the next object", new BeltRounds().wrestlers(), 0);
        Edge.goesOnAs("the making of another object", new BeltRounds(), new BeltRounds());
    }

    private static void feeding() {
        Edge.says("Promise 2", "Appends twenty bytes to the tape: the four bytes of each number, the highest one first.");
        int blank = 0x20202020;
        BeltRounds x = new BeltRounds();
        Check.same("feed()", x.feed(0x72756c65, 0x20647261, 0x773b0a72, 0x756c6520, 0x64726177), 20);
        Check.same("feed()", x.feed(0x3b202020, blank, blank, blank, 0x2020200a), 40);
        Check.same("teach()", x.teach(), 0);
        Check.same("rules()", x.rules(), 2);
        // The least and the greatest number: bytes 128, 0, 0, 0 and 127, 255, 255, 255.
        int[][] fours = {{Edge.LEAST, 0}, {Edge.MOST, 0}, {-1, 0}, {0, 0}, {0x20800000, 1}, {0x20208000, 2},
            {0x20202080, 3}, {0x202020ff, 3}};
        for (int[] four : fours) {
            for (int place = 0; place < 5; place++) {
                int[] all = {blank, blank, blank, blank, blank};
                all[place] = four[0];
                BeltRounds y = new BeltRounds();
                y.feed(all[0], all[1], all[2], all[3], all[4]);
                Check.same("teach()", y.teach(), 1);
                Check.same("errorAt() of " + four[0], y.errorAt(), 4 * place + four[1]);
            }
        }
        Edge.says("Promise 2", "Throws `IllegalStateException` if there would be more than 2000");
        for (int bytes : new int[] {1979, 1980}) {
            BeltRounds y = fed(" ".repeat(bytes));
            Check.same("feed() behind " + bytes, y.feed(blank, blank, blank, blank, 0x2020203f), bytes + 20);
            Check.same("tapeBytes()", y.tapeBytes(), bytes + 20);
            Check.same("teach()", y.teach(), 1);
            Check.same("errorAt()", y.errorAt(), bytes + 19);
        }
        for (int bytes : new int[] {1981, 1982, 1990, 1999, 2000}) {
            Edge.Maker maker = () -> {
                BeltRounds y = Check.taught(TWO);
                Check.feed(y, "rule draw;" + " ".repeat(1990));
                y.trim(bytes);
                return y;
            };
            Edge.changesNothing("feed() behind " + bytes, maker, y -> y.feed(-1, -1, -1, -1, -1), Edge.NO_STATE);
        }
    }

    private static void trimming() {
        Edge.says("Promise 3", "Throws `IllegalArgumentException` if n is not 0 to the number of bytes of the tape");
        for (int bytes : new int[] {0, 1, 10, 19, 20, 21, 1999, 2000}) {
            Edge.Maker maker = () -> fed(("rule draw;" + " ".repeat(1990)).substring(0, bytes));
            for (int n : new int[] {-1, bytes + 1, 2001, Edge.LEAST, Edge.MOST}) {
                Edge.changesNothing("trim(" + n + ") of " + bytes, maker, y -> y.trim(n), Edge.NO_ARGUMENT);
            }
            for (int n : new int[] {0, bytes / 2, Math.max(bytes - 1, 0), bytes}) {
                BeltRounds x = maker.make();
                Check.same("trim(" + n + ") of " + bytes, x.trim(n), n);
                Check.same("tapeBytes()", x.tapeBytes(), n);
                Check.noArgument("trim(" + (n + 1) + ") of " + n, () -> x.trim(n + 1));
            }
        }
        Edge.says("Promise 3", "Shortens the tape to its first bytes.");
        BeltRounds x = fed("rule draw; wrestler");
        x.trim(10);
        Check.feed(x, "rule red wins;");
        Check.same("teach()", x.teach(), 0);
        Check.same("rules()", x.rules(), 2);
        BeltRounds y = fed("?rule");
        y.trim(1);
        Check.same("teach()", y.teach(), 1);
        Check.same("errorAt()", y.errorAt(), 0);
        Edge.changesNothing("trim() to all bytes", () -> fed("rule draw;"), z -> z.trim(10), 10);
        Edge.changesNothing("trim() of nothing", BeltRounds::new, z -> z.trim(0), 0);
    }

    /** A tournament in its second round, with a rest, belts, floats and one who is out; its tape is empty. */
    private static BeltRounds played() {
        BeltRounds x = Check.taught(Edge.many(5) + "points 5 2 1; rule blue wins when round = 1; rule red wins;");
        x.pairRound();
        x.tellByRules();
        x.pairRound();
        x.tell(1, 1);
        x.turnIn(3);
        return x;
    }

    private static void teaching() {
        Edge.says("Promise 4", "If it has an error, all stays (but the tape is empty).");
        String[] texts = {"?", "rule", Edge.many(3) + "points 9 9 9; rule draw; rule", TWO + TWO,
            TWO + "wrestler x strength 7; points 1 1 10;", Edge.many(13), "rule blue wins;".repeat(17),
            "wrestler x strength 1000;", "points 7 7 7; wrestler x strength 0;", fives(81)};
        int[] errors = {1, 1, 1, 2, 5, 4, 4, 5, 5, 1};
        for (int i = 0; i < texts.length; i++) {
            BeltRounds x = played();
            Check.same("teach() of " + texts[i], Check.teach(x, texts[i]), errors[i]);
            Check.same("tapeBytes()", x.tapeBytes(), 0);
            Edge.goesOnAs("teach() of " + texts[i], x, played());
        }
        Edge.says("Promise 4", "Reads the tape as a tournament, in the place of all that was told before; "
                + "all begins anew, without rounds.");
        for (String text : new String[] {"", "rule draw;", TWO, Edge.many(3), Edge.many(5), Edge.many(12) + "points 1 0 0;"}) {
            BeltRounds x = played();
            Check.same("teach()", Check.teach(x, text), 0);
            Check.same("rounds()", x.rounds(), 0);
            Check.same("bouts()", x.bouts(), 0);
            Check.same("openBouts()", x.openBouts(), 0);
            Edge.goesOnAs("teach() of " + text, x, Check.taught(text));
        }
        // Nor do tests of before leave anything behind, however long and often they were told.
        BeltRounds often = new BeltRounds();
        for (int i = 0; i < 6; i++) {
            Check.teach(often, TWO + WHEN + "1 = 2" + " + 1".repeat(180) + (i % 2 == 0 ? ";" : ""));
        }
        Check.teach(often, TWO + "rule red wins; rule blue wins;");
        Edge.goesOnAs("teach() of many tests", often, Check.taught(TWO + "rule red wins; rule blue wins;"));
        Check.teach(often, TWO + "rule blue wins when 1 = 2; rule red wins;");
        Edge.goesOnAs("teach() of many tests", often, Check.taught(TWO + "rule blue wins when 1 = 2; rule red wins;"));
        Edge.says("Promise 4", "Returns 0, or the error, 1 to 5.");
        Check.error("", 0, -1);
        Check.error("?", 1, 0);
        Check.error(TWO + TWO, 2, TWO.length() + 9);
        Check.error(Edge.many(13), 4, Edge.many(12).length() + 9);
        Check.error("points 0 0 10;", 5, 11);
    }

    private static void errorPositions() {
        Edge.says("Promise 5", "Returns the position of the error of the latest teach(); -1 if it had none, "
                + "or there was none.");
        BeltRounds x = new BeltRounds();
        Check.same("errorAt() of a new object", x.errorAt(), -1);
        Check.same("teach()", Check.teach(x, "?"), 1);
        Check.same("errorAt(), the first place", x.errorAt(), 0);
        Check.feed(x, "rule");
        x.trim(2);
        Check.same("errorAt() until the next teach()", x.errorAt(), 0);
        Check.same("teach()", x.teach(), 1);
        Check.same("errorAt()", x.errorAt(), 0);
        Check.same("teach()", Check.teach(x, " ".repeat(1999) + "?"), 1);
        Check.same("errorAt(), the last place", x.errorAt(), 1999);
        Check.same("teach()", Check.teach(x, " ".repeat(1996) + "rule"), 1);
        Check.same("errorAt(), the end of a full tape", x.errorAt(), 2000);
        Check.same("teach() of nothing", x.teach(), 0);
        Check.same("errorAt()", x.errorAt(), -1);
        Check.same("teach()", Check.teach(x, TWO), 0);
        Check.same("errorAt()", x.errorAt(), -1);
        x.pairRound();
        Check.noState("pairRound()", x::pairRound);
        Check.same("errorAt(), another call has no place", x.errorAt(), -1);
    }
}
