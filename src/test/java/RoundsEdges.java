/** The boundary cases of rounds, sentence by sentence: "Terms", part 2. All answers are reckoned by hand. */
final class RoundsEdges {
    private static final String TWO = "wrestler a strength 9; wrestler b strength 9;";
    // Without points the order is that of strength, round by round: 0, 1, 2 and so on.
    private static final String NO_POINTS = "points 0 0 0;";

    private RoundsEdges() {
    }

    static void run() {
        twentyRounds();
        metAtOnce();
        openRounds();
        points();
        inOrOut();
        orderOfPoints();
        orderOfPointsOfMet();
        eachAsOftenAsTheyMet();
        whoIsPaired();
        whoRests();
        pairs();
        pairsWithRematches();
        boutNumbers();
        floats();
        belts();
        latestBelts();
        outcomes();
        byRules();
        values();
        strengthOfSigns();
        severalExceptions();
        throwingChangesNothing();
    }

    private static void draws(BeltRounds x) {
        for (int bout = 0; bout < x.bouts(); bout++) {
            x.tell(bout, 1);
        }
    }

    private static BeltRounds drawnRounds(String text, int rounds) {
        BeltRounds x = Check.taught(text);
        for (int i = 0; i < rounds; i++) {
            x.pairRound();
            draws(x);
        }
        return x;
    }

    /** The two of each bout, "01 23 ab": the smaller number stands first; a and b are 10 and 11. */
    private static void paired(BeltRounds x, String due) {
        StringBuilder got = new StringBuilder();
        for (int bout = 0; bout < x.bouts(); bout++) {
            got.append(bout == 0 ? "" : " ").append(Character.forDigit(Math.min(x.redOf(bout), x.blueOf(bout)), 16))
                    .append(Character.forDigit(Math.max(x.redOf(bout), x.blueOf(bout)), 16));
        }
        Check.same("pairs of round " + x.rounds(), got, due);
    }

    /** Pairs a round of which no bout is a rematch but so many, and tells draws. */
    private static void round(BeltRounds x, int rematches, String due) {
        Check.same("nextRematches() ahead of " + due, x.nextRematches(), rematches);
        x.pairRound();
        paired(x, due);
        draws(x);
    }

    /** Turns wrestlers in or out, so that those of the text are in. */
    private static void onlyIn(BeltRounds x, String in) {
        for (int w = 0; w < x.wrestlers(); w++) {
            if (x.isIn(w) != in.contains(String.valueOf(w))) {
                x.turnIn(w);
            }
        }
    }

    private static void twentyRounds() {
        Edge.says("Terms", "Rounds are numbered from 0; at most 20 are paired.");
        String text = TWO + "rule red wins when round = 0; rule blue wins when round = 19;"
                + "rule red wins when round < 0 or round > 19;";
        BeltRounds x = Check.taught(text);
        for (int round = 0; round < 20; round++) {
            Check.same("pairRound()", x.pairRound(), 1);
            Check.same("rounds()", x.rounds(), round + 1);
            Check.same("ruledOutcome(0) of round " + round, x.ruledOutcome(0), round == 0 ? 0 : round == 19 ? 2 : 1);
            x.tell(0, 1);
        }
        Check.same("rounds()", x.rounds(), 20);
        Edge.changesNothing("pairRound() of the 20th", () -> drawnRounds(text, 19), BeltRounds::nextRematches, 1);
        Edge.changesNothing("nextOpponentOf() of the 20th", () -> drawnRounds(text, 19), y -> y.nextOpponentOf(0), 1);
        Edge.changesNothing("pairRound() of the 21st", () -> drawnRounds(text, 20), BeltRounds::pairRound,
                Edge.NO_STATE);
        Edge.changesNothing("nextRematches() of the 21st", () -> drawnRounds(text, 20), BeltRounds::nextRematches,
                Edge.NO_STATE);
        Edge.changesNothing("nextOpponentOf() of the 21st", () -> drawnRounds(text, 20), y -> y.nextOpponentOf(0),
                Edge.NO_STATE);
        // With another tournament there may be 20 again.
        Check.same("teach()", Check.teach(x, text), 0);
        Check.same("pairRound()", x.pairRound(), 1);
        Check.same("ruledOutcome(0), round 0 again", x.ruledOutcome(0), 0);
    }

    private static void metAtOnce() {
        Edge.says("Terms", "Two wrestlers have met as soon as they are paired, also if the outcome is not told yet.");
        BeltRounds x = Check.taught(Edge.many(3) + "points 2 1 7; rule red wins when met;");
        Check.same("timesMet(0, 1)", x.timesMet(0, 1), 0);
        x.pairRound();
        Check.same("timesMet(0, 1)", x.timesMet(0, 1), 1);
        Check.same("timesMet(1, 0)", x.timesMet(1, 0), 1);
        Check.same("timesMet(0, 2)", x.timesMet(0, 2), 0);
        Check.same("ruledOutcome(0)", x.ruledOutcome(0), 1);
        Edge.each("pointsOfMet", x::pointsOfMet, 0, 0, 0);
        x.tell(0, 2);
        Check.same("timesMet(0, 1)", x.timesMet(0, 1), 1);
        Edge.each("pointsOfMet", x::pointsOfMet, 2, 0, 0);
        // 2 has 7 points, 1 has 2, 0 has none; 0 and 1 have not rested: 0 rests, the last one of them, and has 7.
        x.pairRound();
        Check.same("restingOne()", x.restingOne(), 0);
        Check.same("timesMet(1, 2)", x.timesMet(1, 2), 1);
        Edge.each("pointsOfMet, of a bout that is open", x::pointsOfMet, 2, 14, 2);
    }

    private static void openRounds() {
        Edge.says("Terms", "A round is open, as long as the outcome of one of its bouts is not told.");
        for (int told = 0; told <= 2; told++) {
            int outcomes = told;
            Edge.Maker maker = () -> {
                BeltRounds x = Check.taught(Edge.many(5));
                x.pairRound();
                for (int bout = 0; bout < outcomes; bout++) {
                    x.tell(1 - bout, 0);
                }
                return x;
            };
            boolean open = told < 2;
            Check.same("openBouts()", maker.make().openBouts(), 2 - told);
            Check.same("pairRound()", Check.answerOf(maker.make()::pairRound), open ? Edge.NO_STATE : 2);
            Edge.changesNothing("nextRematches()", maker, BeltRounds::nextRematches, open ? Edge.NO_STATE : 0);
            if (open) {
                Edge.changesNothing("pairRound() of an open round", maker, BeltRounds::pairRound, Edge.NO_STATE);
            }
        }
    }

    private static void points() {
        Edge.says("Terms", "Points of a wrestler: those of all bouts and rests so far.");
        BeltRounds x = Check.taught(Edge.many(3) + "points 5 3 1;");
        Edge.each("pointsOf ahead of the first round", x::pointsOf, 0, 0, 0);
        x.pairRound();
        Edge.each("pointsOf, a rest counts at once, a bout does not", x::pointsOf, 0, 0, 1);
        x.tell(0, 0);
        Edge.each("pointsOf", x::pointsOf, 5, 0, 1);
        // 0 has 5, 2 has 1, 1 has none: 1 rests, the last one of 0 and 1, who have not rested.
        x.pairRound();
        Check.same("restingOne()", x.restingOne(), 1);
        Edge.each("pointsOf", x::pointsOf, 5, 1, 1);
        x.tell(0, 1);
        Edge.each("pointsOf", x::pointsOf, 8, 1, 4);
        x.turnIn(0);
        Edge.each("pointsOf, also who is out", x::pointsOf, 8, 1, 4);
    }

    private static void inOrOut() {
        Edge.says("Terms", "Wrestlers are in, unless they are out.");
        BeltRounds x = Check.taught(Edge.many(12));
        for (int w = 0; w < 12; w++) {
            Check.same("isIn()", x.isIn(w), true);
            Check.same("wrestlersIn()", x.wrestlersIn(), 12 - w);
            x.turnIn(w);
            Check.same("isIn()", x.isIn(w), false);
        }
        Check.same("wrestlersIn()", x.wrestlersIn(), 0);
        Check.same("teach()", Check.teach(x, Edge.many(2)), 0);
        Check.same("wrestlersIn(), all are in anew", x.wrestlersIn(), 2);
    }

    private static void orderOfPoints() {
        Edge.says("Terms", "Wrestlers stand by their points, more ahead; of as many by the points of those whom they met "
                + "(each one as often as they met), added, more ahead; then by their strength, more ahead; "
                + "then by their numbers.");
        // One more in strength stands ahead; of as strong ones the smaller number.
        BeltRounds x = Check.taught("wrestler a strength 5; wrestler b strength 6; wrestler c strength 6;"
                + "wrestler d strength 5; wrestler e strength 7;");
        Edge.each("wrestlerAt", x::wrestlerAt, 4, 1, 2, 0, 3);
        Edge.each("rankOf", x::rankOf, 3, 1, 2, 4, 0);
        BeltRounds alike = Check.taught(Edge.many(12).replaceAll("strength \\d+", "strength 7"));
        Edge.each("wrestlerAt", alike::wrestlerAt, 0, 1, 2, 3, 4, 5, 6, 7, 8, 9, 10, 11);
        // One point more goes ahead of all that one has met, of strength and of the number.
        BeltRounds y = Check.taught("wrestler a strength 999; wrestler b strength 1; points 1 0 0;");
        y.pairRound();
        Edge.each("wrestlerAt", y::wrestlerAt, 0, 1);
        y.tell(0, 2);
        Edge.each("pointsOf", y::pointsOf, 0, 1);
        Edge.each("pointsOfMet", y::pointsOfMet, 1, 0);
        Edge.each("wrestlerAt", y::wrestlerAt, 1, 0);
    }

    private static void orderOfPointsOfMet() {
        BeltRounds x = Check.taught(Edge.many(4) + "points 1 0 0;");
        x.pairRound();
        paired(x, "01 23");
        x.tell(0, 2);
        x.tell(1, 1);
        // 1 has a point, and 0 has met it.
        Edge.each("wrestlerAt", x::wrestlerAt, 1, 0, 2, 3);
        x.pairRound();
        paired(x, "12 03");
        Edge.each("redOf", x::redOf, 1, 3);
        x.tell(0, 2);
        x.tell(1, 2);
        Edge.each("pointsOf", x::pointsOf, 1, 1, 1, 0);
        Edge.each("pointsOfMet", x::pointsOfMet, 1, 2, 1, 2);
        // 1 is weaker than 0, but has met one point more; 0 and 2 have met as much, and 0 is stronger.
        Edge.each("wrestlerAt", x::wrestlerAt, 1, 0, 2, 3);
        Edge.each("rankOf", x::rankOf, 1, 0, 2, 3);
    }

    private static void eachAsOftenAsTheyMet() {
        BeltRounds x = Check.taught("wrestler ann strength 50; wrestler bor strength 70; wrestler cei strength 60;"
                + "wrestler dun strength 40;");
        x.pairRound();
        paired(x, "12 03");
        x.tell(0, 1);
        x.tell(1, 0);
        x.pairRound();
        paired(x, "01 23");
        x.tell(0, 0);
        x.tell(1, 2);
        onlyIn(x, "23");
        x.pairRound();
        Check.same("redOf(0)", x.redOf(0), 3);
        Check.same("timesMet(2, 3)", x.timesMet(2, 3), 2);
        x.tell(0, 0);
        Edge.each("pointsOf", x::pointsOf, 4, 1, 1, 4);
        // bor met cei (1) and ann (4); cei met bor (1) and dun (4) twice, else both had met as much.
        Edge.each("pointsOfMet", x::pointsOfMet, 5, 5, 9, 6);
        Edge.each("wrestlerAt", x::wrestlerAt, 3, 0, 2, 1);
    }

    private static void whoIsPaired() {
        for (int in = 0; in <= 12; in++) {
            Edge.says("Terms", "All wrestlers who are in, in this order.");
            BeltRounds x = Check.taught(Edge.many(12));
            for (int w = in; w < 12; w++) {
                x.turnIn(w);
            }
            Check.same("pairRound() of " + in, Check.answerOf(x::pairRound), in < 2 ? Edge.NO_STATE : in / 2);
            for (int w = 0; w < 12; w++) {
                int wrestler = w;
                boolean fights = in >= 2 && w < in / 2 * 2;
                Check.same("opponentOf(" + w + ") of " + in, Check.answerOf(() -> x.opponentOf(wrestler)),
                        fights ? (w ^ 1) : Edge.NO_STATE);
            }
            Edge.says("Terms", "If they are odd, one rests");
            Check.same("restingOne() of " + in, Check.answerOf(x::restingOne),
                    in >= 2 && in % 2 == 1 ? in - 1 : Edge.NO_STATE);
        }
    }

    private static void whoRests() {
        Edge.says("Terms", "of those who rested the fewest times the last one");
        BeltRounds x = Check.taught(Edge.many(3) + NO_POINTS);
        int[] rests = {2, 1, 0, 2, 1, 0, 2};
        for (int due : rests) {
            x.pairRound();
            Check.same("restingOne() of round " + x.rounds(), x.restingOne(), due);
            draws(x);
        }
        Edge.each("restsOf", x::restsOf, 2, 2, 3);
        // Two who are paired do not rest; who comes in again has rested as often as before.
        x.turnIn(1);
        x.pairRound();
        Check.noState("restingOne() of two", x::restingOne);
        Edge.each("restsOf", x::restsOf, 2, 2, 3);
        draws(x);
        x.turnIn(1);
        x.pairRound();
        Check.same("restingOne()", x.restingOne(), 1);
        // Those who are out and have rested less do not count.
        BeltRounds y = Check.taught(Edge.many(4) + NO_POINTS);
        onlyIn(y, "012");
        y.pairRound();
        Check.same("restingOne()", y.restingOne(), 2);
        draws(y);
        y.pairRound();
        Check.same("restingOne()", y.restingOne(), 1);
        draws(y);
        onlyIn(y, "123");
        y.pairRound();
        Check.same("restingOne(), who has not rested", y.restingOne(), 3);
        draws(y);
        y.pairRound();
        Check.same("restingOne(), all who are in have rested once", y.restingOne(), 3);
        // The order is that of now: here the strongest one stands last.
        BeltRounds z = Check.taught(Edge.many(3) + "points 2 1 3;");
        z.pairRound();
        z.tell(0, 2);
        z.pairRound();
        Check.same("restingOne()", z.restingOne(), 0);
        paired(z, "12");
    }

    private static void pairs() {
        Edge.says("Terms", "The pairs of the others: the first one meets one behind, the first of the rest one behind, "
                + "and so on; of all ways to do so, those with the fewest pairs who have met already; of these, that in "
                + "which the first one meets the one who stands the farthest ahead; of these, that in which the first of "
                + "the rest does so; and so on.");
        BeltRounds x = Check.taught(Edge.many(6) + NO_POINTS);
        round(x, 0, "01 23 45");
        // 1 cannot meet 3: then 4 would meet 5 again.
        round(x, 0, "02 14 35");
        round(x, 0, "03 15 24");
        round(x, 0, "04 13 25");
        round(x, 0, "05 12 34");
        // All have met once: all ways are alike, then the farthest ahead is taken again.
        round(x, 3, "01 23 45");
        round(x, 3, "01 23 45");
        BeltRounds y = Check.taught(Edge.many(4) + NO_POINTS);
        round(y, 0, "01 23");
        round(y, 0, "02 13");
        round(y, 0, "03 12");
        round(y, 2, "01 23");
        BeltRounds two = Check.taught(Edge.many(2) + NO_POINTS);
        round(two, 0, "01");
        round(two, 1, "01");
        // Ten: 5 cannot meet 7, as then 8 would meet 9 again.
        BeltRounds ten = Check.taught(Edge.many(10) + NO_POINTS);
        round(ten, 0, "01 23 45 67 89");
        round(ten, 0, "02 13 46 58 79");
        // Twelve, the most: in three rounds 0 to 3, 4 to 7 and 8 to 11 meet all of their own four;
        // then 8 to 11 have to meet four of the others, so 2 does not meet 6, nor 3 meet 7.
        BeltRounds twelve = Check.taught(Edge.many(12) + NO_POINTS);
        round(twelve, 0, "01 23 45 67 89 ab");
        round(twelve, 0, "02 13 46 57 8a 9b");
        round(twelve, 0, "03 12 47 56 8b 9a");
        round(twelve, 0, "04 15 28 39 6a 7b");
        // Four who are in of twelve, the last ones: all have met.
        for (int w = 0; w < 8; w++) {
            twelve.turnIn(w);
        }
        round(twelve, 2, "89 ab");
    }

    private static void pairsWithRematches() {
        BeltRounds x = Check.taught(Edge.many(4) + NO_POINTS);
        for (String pair : new String[] {"01", "02", "03"}) {
            onlyIn(x, pair);
            round(x, 0, pair);
        }
        // 0 has met all: one rematch each way, and 1 is the farthest ahead.
        onlyIn(x, "0123");
        round(x, 1, "01 23");
        // 0 and 1, 2 and 3 would be two of them.
        round(x, 1, "02 13");
        round(x, 1, "03 12");
        round(x, 2, "01 23");
        // Those who are out do not count, nor how often two have met.
        onlyIn(x, "013");
        Check.same("nextRematches()", x.nextRematches(), 1);
        Check.same("nextOpponentOf(0), 3 rests", x.nextOpponentOf(0), 1);
        // The first of the rest: 0 meets 1, as they have not met; of 2 to 5, 2 and 3 have met.
        BeltRounds y = Check.taught(Edge.many(6) + NO_POINTS);
        onlyIn(y, "23");
        round(y, 0, "23");
        onlyIn(y, "012345");
        round(y, 0, "01 24 35");
        // One point puts 5 ahead: 5 has met 3; 5 and 0, then 1 and 2, 3 and 4.
        BeltRounds z = Check.taught(Edge.many(6) + "points 1 0 0;");
        onlyIn(z, "35");
        z.pairRound();
        z.tell(0, 2);
        onlyIn(z, "012345");
        Edge.each("wrestlerAt", z::wrestlerAt, 5, 3, 0, 1, 2, 4);
        z.pairRound();
        Check.same("opponentOf(5), not 3", z.opponentOf(5), 0);
        paired(z, "05 13 24");
    }

    private static void boutNumbers() {
        Edge.says("Terms", "Bouts are numbered in this order, by the one of the two who stands ahead.");
        BeltRounds x = Check.taught(Edge.many(4).replaceFirst("100", "1") + NO_POINTS);
        // Order: 1, 2, 3, 0.
        round(x, 0, "12 03");
        round(x, 0, "13 02");
        round(x, 0, "01 23");
        BeltRounds twelve = Check.taught(Edge.many(12));
        Check.same("pairRound()", twelve.pairRound(), 6);
        Edge.each("redOf", twelve::redOf, 0, 2, 4, 6, 8, 10);
        Edge.each("blueOf", twelve::blueOf, 1, 3, 5, 7, 9, 11);
    }

    private static void floats() {
        Edge.says("Terms", "Floats: in a pair with different points, the one with more floats once.");
        BeltRounds x = Check.taught(Edge.many(2) + "points 1 0 0;");
        x.pairRound();
        Edge.each("floatsOf, as many points", x::floatsOf, 0, 0);
        x.tell(0, 2);
        Edge.each("floatsOf, points of this round do not count", x::floatsOf, 0, 0);
        x.pairRound();
        Edge.each("floatsOf, one point more", x::floatsOf, 0, 1);
        Check.same("redOf(0)", x.redOf(0), 1 - x.blueOf(0));
        x.tell(0, x.redOf(0) == 0 ? 0 : 2);
        Edge.each("pointsOf", x::pointsOf, 1, 1);
        x.pairRound();
        Edge.each("floatsOf, as many again", x::floatsOf, 0, 1);
        x.tell(0, x.redOf(0) == 0 ? 0 : 2);
        x.pairRound();
        Edge.each("floatsOf", x::floatsOf, 1, 1);
        // Nine more are one float as well; in both bouts; who rests does not float.
        BeltRounds y = Check.taught(Edge.many(5) + "points 9 0 9;");
        y.pairRound();
        Edge.each("floatsOf", y::floatsOf, 0, 0, 0, 0, 0);
        y.tell(0, 0);
        y.tell(1, 1);
        Edge.each("pointsOf", y::pointsOf, 9, 0, 0, 0, 9);
        // 0 and 4 have 9; 1 has met 9, and then come 2 and 3; 3 rests.
        y.pairRound();
        paired(y, "04 12");
        Edge.each("floatsOf", y::floatsOf, 0, 0, 0, 0, 0);
        y.tell(0, 1);
        y.tell(1, 1);
        Edge.each("pointsOf", y::pointsOf, 9, 0, 0, 9, 9);
        onlyIn(y, "03");
        y.pairRound();
        Edge.each("floatsOf", y::floatsOf, 0, 0, 0, 0, 0);
        draws(y);
        // Order: 0, 3, 4, 1; 0 has met all of them, 4 and 1 have not met.
        onlyIn(y, "0134");
        y.pairRound();
        paired(y, "03 14");
        Edge.each("floatsOf", y::floatsOf, 0, 0, 0, 0, 1);
    }

    private static void oneBout(BeltRounds x, String in, int red, int blue) {
        onlyIn(x, in);
        x.pairRound();
        Check.same("redOf(0) of round " + x.rounds(), x.redOf(0), red);
        Check.same("blueOf(0) of round " + x.rounds(), x.blueOf(0), blue);
        draws(x);
    }

    private static void belts() {
        Edge.says("Terms", "The one of a pair who had the red belt fewer times, less how often the blue one, has it; "
                + "of as many, the one who had the blue belt in the latest bout, if the other one did not; "
                + "otherwise the one who stands ahead.");
        BeltRounds x = Check.taught(Edge.many(4) + NO_POINTS);
        // Neither had a bout: the one ahead.
        oneBout(x, "01", 0, 1);
        Edge.each("beltsOf", x::beltsOf, 1, -1, 0, 0);
        // One fewer has red: the one ahead, then the one behind.
        oneBout(x, "12", 1, 2);
        Edge.each("beltsOf", x::beltsOf, 1, 0, -1, 0);
        oneBout(x, "12", 2, 1);
        Edge.each("beltsOf", x::beltsOf, 1, -1, 0, 0);
        // As many (0): 2 had red, 3 had no bout; neither had blue: the one ahead.
        oneBout(x, "23", 2, 3);
        Edge.each("beltsOf", x::beltsOf, 1, -1, 1, -1);
        // As many (-1), both had blue: the one ahead.
        oneBout(x, "13", 1, 3);
        Edge.each("beltsOf", x::beltsOf, 1, 0, 1, -2);
        // As many (1), neither had blue: the one ahead.
        oneBout(x, "02", 0, 2);
        Edge.each("beltsOf", x::beltsOf, 2, 0, 0, -2);
        // As many (0), the one behind had blue, the one ahead did not: the one behind.
        oneBout(x, "12", 2, 1);
        Edge.each("beltsOf", x::beltsOf, 2, -1, 1, -2);
        oneBout(x, "03", 3, 0);
        Edge.each("beltsOf", x::beltsOf, 1, -1, 1, -1);
        // Fewer counts more than that 0 had blue, and 3 had not.
        oneBout(x, "03", 3, 0);
        Edge.each("beltsOf", x::beltsOf, 0, -1, 1, 0);
        // As many (0), the one ahead had blue: the one ahead.
        oneBout(x, "03", 0, 3);
        Edge.says("Terms", "The other one has the blue belt.");
        Edge.each("beltsOf", x::beltsOf, 1, -1, 1, -1);
        Edge.each("redOf", x::redOf, 0);
        Edge.each("blueOf", x::blueOf, 3);
        BeltRounds y = Check.taught(Edge.many(12));
        y.pairRound();
        Edge.each("beltsOf", y::beltsOf, 1, -1, 1, -1, 1, -1, 1, -1, 1, -1, 1, -1);
    }

    /** "In the latest bout": the latest one of a wrestler, also with a rest or rounds out behind it. */
    private static void latestBelts() {
        Edge.says("Terms", "of as many, the one who had the blue belt in the latest bout, if the other one did not");
        BeltRounds x = Check.taught(Edge.many(4) + NO_POINTS);
        oneBout(x, "01", 0, 1);
        oneBout(x, "01", 1, 0);
        Edge.each("beltsOf", x::beltsOf, 0, 0, 0, 0);
        // 2 has had no bout; 0 had blue in the latest one, since then it was out.
        oneBout(x, "23", 2, 3);
        oneBout(x, "23", 3, 2);
        Edge.each("beltsOf", x::beltsOf, 0, 0, 0, 0);
        // 1 had red, 2 had blue; 1 stands ahead.
        oneBout(x, "12", 2, 1);
        // 0 had blue four rounds ago, 3 had red two rounds ago.
        oneBout(x, "03", 0, 3);
        // A rest between: 3 had blue in round 3 and rests in round 4; 1 had red in round 3.
        BeltRounds y = Check.taught(Edge.many(4) + NO_POINTS);
        oneBout(y, "01", 0, 1);
        oneBout(y, "03", 3, 0);
        oneBout(y, "13", 1, 3);
        Edge.each("beltsOf", y::beltsOf, 0, 0, 0, 0);
        oneBout(y, "023", 0, 2);
        Check.same("restingOne()", y.restingOne(), 3);
        oneBout(y, "13", 3, 1);
        // The same with a round out instead of the rest.
        BeltRounds z = Check.taught(Edge.many(4) + NO_POINTS);
        oneBout(z, "01", 0, 1);
        oneBout(z, "03", 3, 0);
        oneBout(z, "13", 1, 3);
        oneBout(z, "02", 0, 2);
        oneBout(z, "13", 3, 1);
    }

    private static void outcomes() {
        Edge.says("Terms", "Outcomes: 0, red wins; 1, a draw; 2, blue wins.");
        int[][] due = {{1, 0, 0, 0, 0, 1}, {0, 0, 1, 1, 0, 0}, {0, 1, 0, 0, 1, 0}};
        for (int outcome = 0; outcome <= 2; outcome++) {
            BeltRounds x = Check.taught(TWO);
            x.pairRound();
            Check.same("redOf(0)", x.redOf(0), 0);
            Check.same("tell()", x.tell(0, outcome), 0);
            Check.same("outcomeOf(0)", x.outcomeOf(0), outcome);
            Edge.each("winsOf", x::winsOf, due[outcome][0], due[outcome][1]);
            Edge.each("drawsOf", x::drawsOf, due[outcome][2], due[outcome][3]);
            Edge.each("lossesOf", x::lossesOf, due[outcome][4], due[outcome][5]);
        }
    }

    private static void ruled(String rules, int due) {
        BeltRounds x = Check.taught(TWO + rules);
        x.pairRound();
        Check.same("ruledOutcome(0) by " + rules, x.ruledOutcome(0), due);
        x.tellByRules();
        Check.same("outcomeOf(0) by " + rules, x.outcomeOf(0), due);
    }

    private static void byRules() {
        Edge.says("Terms", "By rules: the first one in the order in which they are told whose test holds "
                + "(or that has none) tells it; without one it is a draw.");
        ruled("", 1);
        ruled("rule red wins;", 0);
        ruled("rule draw;", 1);
        ruled("rule blue wins;", 2);
        ruled("rule red wins; rule blue wins;", 0);
        ruled("rule blue wins; rule red wins;", 2);
        ruled("rule red wins when 1 = 2;", 1);
        ruled("rule red wins when 1 = 2; rule blue wins when 2 = 1;", 1);
        ruled("rule red wins when 1 = 2; rule blue wins when 1 = 1; rule red wins;", 2);
        ruled("rule red wins when 1 = 1; rule blue wins when 1 = 1; rule draw;", 0);
        ruled("rule red wins when 1 = 2; rule blue wins;", 2);
        ruled("rule draw when 1 = 1; rule blue wins;", 1);
        ruled("rule red wins when met;".repeat(15) + "rule blue wins;", 2);
        ruled("rule red wins when met;".repeat(15) + "rule blue wins when not met;", 2);
        ruled("rule red wins when met;".repeat(16), 1);
    }

    /** A value in the second bout of b (red) and a (who won the first one), with its outcome open, and red winning. */
    private static void value(String value, int open, int told) {
        for (int n = -2; n <= 10; n++) {
            String test = value + " = " + (n < 0 ? "-" + -n : n);
            BeltRounds x = Check.taught(TWO + "points 4 3 2; rule red wins when " + test + "; rule blue wins;");
            x.pairRound();
            x.tell(0, 0);
            x.pairRound();
            Check.same(test, x.ruledOutcome(0), n == open ? 0 : 2);
            x.tell(0, 0);
            Check.same(test + " behind the outcome", x.ruledOutcome(0), n == told ? 0 : 2);
        }
    }

    /** Whether a test holds in the second bout of two. */
    private static void inSecondBout(String test, boolean due) {
        BeltRounds x = Check.taught(TWO + "rule red wins when " + test + "; rule blue wins;");
        x.pairRound();
        x.tell(0, 1);
        x.pairRound();
        Check.same(test + " in the second bout", x.ruledOutcome(0), due ? 0 : 2);
    }

    private static void values() {
        Edge.says("Terms", "In tests and sums, for a bout, red and blue are its two wrestlers; round is how many rounds "
                + "were paired ahead of its round; points, strength, won, belts, floats and rest are of one of them: "
                + "points as they are now, how strong, how many bouts were won, how often the red belt was had less how "
                + "often the blue one (with this bout), how many floats (with this bout), how many rests; met holds if "
                + "both had met ahead of this round.");
        value("round", 1, 1);
        value("points red", 0, 4);
        value("points blue", 4, 4);
        value("strength red", 9, 9);
        value("won red", 0, 1);
        value("won blue", 1, 1);
        value("belts red", 0, 0);
        value("belts blue", 0, 0);
        value("floats red", 0, 0);
        value("floats blue", 1, 1);
        value("rest red", 0, 0);
        // The first bout: the belts are those of this bout, and both have not met ahead of it.
        ruled("rule red wins when belts red = 1 and belts blue = -1;", 0);
        ruled("rule red wins when round = 0;", 0);
        ruled("rule red wins when met; rule blue wins when not met;", 2);
        inSecondBout("met", true);
        inSecondBout("not met", false);
        inSecondBout("not not met", true);
        inSecondBout("met and 1 = 1", true);
        inSecondBout("met and met", true);
        inSecondBout("not met or 1 = 2", false);
        inSecondBout("round = 1", true);
        // Three, of whom one rests each round: met holds from the second bout of the same two on.
        BeltRounds x = Check.taught(Edge.many(3) + NO_POINTS + "rule red wins when met; rule blue wins when rest red = 1;");
        x.pairRound();
        Check.same("ruledOutcome(0)", x.ruledOutcome(0), 1);
        draws(x);
        x.pairRound();
        paired(x, "02");
        Check.same("redOf(0), who had no bout", x.redOf(0), 2);
        Check.same("ruledOutcome(0), a first bout, red rested", x.ruledOutcome(0), 2);
        draws(x);
        x.pairRound();
        paired(x, "12");
        draws(x);
        x.pairRound();
        paired(x, "01");
        Check.same("ruledOutcome(0), the second bout of both", x.ruledOutcome(0), 0);
    }

    private static void strengthOfSigns() {
        Edge.says("Terms", "Both sides of and and or are reckoned; and binds more than or, not more than and.");
        for (String holding : new String[] {"1 = 1 and 2 = 2", "1 = 1 or 2 = 2", "1 = 1 or 1 = 2", "1 = 2 or 1 = 1",
            "1 = 1 or 1 = 1 and 1 = 2", "1 = 2 and 1 = 1 or 1 = 1", "not 1 = 2 or 1 = 1 and 1 = 2",
            "not [1 = 2 and 1 = 2]", "not 1 = 1 or 1 = 1", "not not 1 = 1", "not not not 1 = 2",
            "1 / 0 = 0 or 1 / 0 = 1", "1 = 2 or 1 = 2 or 1 = 1", "1 = 1 or 1 = 2 or 1 = 2"}) {
            ruled("rule red wins when " + holding + "; rule blue wins;", 0);
        }
        for (String failing : new String[] {"1 = 1 and 1 = 2", "1 = 2 and 1 = 1", "1 = 2 and 1 = 2", "1 = 2 or 1 = 2",
            "[1 = 1 or 1 = 1] and 1 = 2", "1 = 2 and [1 = 1 or 1 = 1]", "not 1 = 2 and 1 = 2",
            "not [1 = 1 or 1 = 1]", "not 1 = 1", "not not 1 = 2", "not 1 / 0 = 0 and met",
            "1 = 1 and 1 = 1 and 1 = 2", "1 = 2 and 1 = 1 and 1 = 1"}) {
            ruled("rule red wins when " + failing + "; rule blue wins;", 2);
        }
    }

    private static void severalExceptions() {
        Edge.says("Terms", "If several exceptions apply, the one that is named first is thrown.");
        BeltRounds none = new BeltRounds();
        Check.noIndex("outcomeOf(0) without a round", () -> none.outcomeOf(0));
        Check.noIndex("opponentOf(0), no wrestler and no round", () -> none.opponentOf(0));
        Check.noIndex("nextOpponentOf(0), no wrestler and no pairs", () -> none.nextOpponentOf(0));
        Check.noIndex("tell(0, 3) without a round", () -> none.tell(0, 3));
        Check.noArgument("leaderAfter(0) without wrestlers", () -> none.leaderAfter(0));
        Check.noArgument("leaderAfter(11) without wrestlers", () -> none.leaderAfter(11));
        Check.noState("leaderAfter(1) without wrestlers", () -> none.leaderAfter(1));
        Check.noIndex("pointsAfter(0, 0) without wrestlers", () -> none.pointsAfter(0, 0));
        BeltRounds x = Check.taught(Edge.many(4));
        x.pairRound();
        x.tell(0, 1);
        Check.noIndex("tell(2, 3)", () -> x.tell(2, 3));
        Check.noIndex("tell(-1, -1)", () -> x.tell(-1, -1));
        Check.noArgument("tell(0, 3) of a bout with an outcome", () -> x.tell(0, 3));
        Check.noArgument("tell(0, -1) of a bout with an outcome", () -> x.tell(0, -1));
        Check.noState("tell(0, 2) of a bout with an outcome", () -> x.tell(0, 2));
        Check.noIndex("nextOpponentOf(4) of an open round", () -> x.nextOpponentOf(4));
        Check.noState("nextOpponentOf(3) of an open round", () -> x.nextOpponentOf(3));
        Check.noIndex("outcomeOf(2)", () -> x.outcomeOf(2));
        Check.noState("outcomeOf(1)", () -> x.outcomeOf(1));
        Check.noIndex("pointsAfter(4, 0)", () -> x.pointsAfter(4, 0));
        Check.noIndex("pointsAfter(-1, 11)", () -> x.pointsAfter(-1, 11));
        Check.noArgument("pointsAfter(3, 11)", () -> x.pointsAfter(3, 11));
    }

    /** In its third round: one bout of two is told, one rests, one is out; a line lies on the tape. */
    static BeltRounds inTheMidst() {
        BeltRounds x = Check.taught(Edge.many(6) + "points 3 1 2; rule red wins when strength red > strength blue;"
                + "rule blue wins when not met;");
        x.pairRound();
        x.tellByRules();
        x.turnIn(2);
        x.pairRound();
        x.tell(1, 2);
        x.tell(0, 1);
        x.pairRound();
        x.tell(1, 0);
        Check.feed(x, "wrestler zoe strength 7;");
        return x;
    }

    private static void throwingChangesNothing() {
        Edge.says("Terms", "A method that throws an exception changes nothing.");
        Edge.Act[] indexes = {x -> x.strengthOf(6), x -> x.pointsOf(6), x -> x.winsOf(-1), x -> x.drawsOf(6),
            x -> x.lossesOf(6), x -> x.restsOf(6), x -> x.beltsOf(-1), x -> x.floatsOf(6), x -> x.pointsOfMet(6),
            x -> x.rankOf(6), x -> x.isIn(6), x -> x.wrestlerAt(6), x -> x.timesMet(0, 6), x -> x.redOf(2),
            x -> x.blueOf(2), x -> x.outcomeOf(2), x -> x.ruledOutcome(2), x -> x.opponentOf(6), x -> x.tell(2, 0),
            x -> x.turnIn(6), x -> x.turnIn(-1), x -> x.nextOpponentOf(6), x -> x.pointsAfter(6, 1)};
        for (int i = 0; i < indexes.length; i++) {
            Edge.changesNothing("call " + i, RoundsEdges::inTheMidst, indexes[i], Edge.NO_INDEX);
        }
        Edge.Act[] arguments = {x -> x.trim(25), x -> x.trim(-1), x -> x.tell(0, 3), x -> x.tell(1, -1),
            x -> x.leaderAfter(0), x -> x.leaderAfter(11), x -> x.pointsAfter(0, 0), x -> x.pointsAfter(5, 11)};
        for (int i = 0; i < arguments.length; i++) {
            Edge.changesNothing("call " + i, RoundsEdges::inTheMidst, arguments[i], Edge.NO_ARGUMENT);
        }
        Edge.Act[] states = {x -> x.outcomeOf(0), x -> x.opponentOf(2), x -> x.pairRound(), x -> x.tell(1, 0),
            x -> x.tell(1, 2), x -> x.nextOpponentOf(0), x -> x.nextRematches()};
        for (int i = 0; i < states.length; i++) {
            Edge.changesNothing("call " + i, RoundsEdges::inTheMidst, states[i], Edge.NO_STATE);
        }
    }
}
