import java.math.BigInteger;

/** The boundary cases of the calls, promise by promise: 6 to 41. */
final class CallsEdges {
    private static final int[] OUTSIDE = {Edge.LEAST, Edge.LEAST + 1, -1000, -2, -1, 13, 100, Edge.MOST - 1, Edge.MOST};
    private static final String NO_SUCH_WRESTLER = "Throws `IndexOutOfBoundsException` if there is no such wrestler";
    private static final String NO_SUCH_BOUT =
            "Throws `IndexOutOfBoundsException` if there is no such bout in the latest round";

    private CallsEdges() {
    }

    private interface Asked {
        Object of(BeltRounds x, int number);
    }

    static void run() {
        calls512();
        counts();
        latestRound();
        wrestlerCalls();
        ranks();
        meetings();
        boutCalls();
        outcomes();
        opponents();
        resting();
        pairing();
        telling();
        tellingByRules();
        turning();
        nextOpponents();
        nextRematches();
        leaders();
        pointsAfter();
        roundsThatCanBePaired();
        meanPoints();
        digest();
        digestWraps();
    }

    private static void draws(BeltRounds x) {
        for (int bout = 0; bout < x.bouts(); bout++) {
            x.tell(bout, 1);
        }
    }

    /** Twelve, whose six bouts of the first round are told: red wins, a draw, blue wins, and so on. */
    private static BeltRounds twelve() {
        BeltRounds x = Check.taught(Edge.many(12));
        x.pairRound();
        for (int bout = 0; bout < 6; bout++) {
            x.tell(bout, bout % 3);
        }
        return x;
    }

    private static BeltRounds five() {
        BeltRounds x = Check.taught(Edge.many(5) + "rule red wins;");
        x.pairRound();
        return x;
    }

    private static BeltRounds rounds(int rounds) {
        BeltRounds x = Check.taught(Edge.many(2) + "points 1 0 0; rule red wins;");
        for (int i = 0; i < rounds; i++) {
            x.pairRound();
            x.tellByRules();
        }
        return x;
    }

    private static void calls512() {
        Edge.says("What it is", "An object is used for at most 512 calls after it has been made");
        BeltRounds x = new BeltRounds();
        int calls = 0;
        for (int i = 0; i < 100; i++) {
            x.feed(0x20202020, 0x20202020, 0x20202020, 0x20202020, 0x2020203f);
            calls++;
        }
        Check.same("teach()", x.teach(), 1);
        Check.same("errorAt()", x.errorAt(), 19);
        calls += 2;
        for (; calls < 510; calls++) {
            Check.noIndex("turnIn(0)", () -> x.turnIn(0));
        }
        Check.same("the 511th call", x.feed(0, 0, 0, 0, 0), 20);
        Check.same("the 512th call", x.digest(), 967L * 27512614111L + 20 * 31 * 31);
        // The dearest calls as well.
        BeltRounds y = Check.taught(Edge.many(12));
        int leader = y.leaderAfter(10);
        for (int i = 0; i < 480; i++) {
            Check.same("leaderAfter(10)", y.leaderAfter(10), leader);
        }
    }

    private static void counts() {
        for (int n = 0; n <= 12; n++) {
            Edge.says("Promise 6", "Returns how many wrestlers there are.");
            BeltRounds x = Check.taught(Edge.many(n));
            Check.same("wrestlers()", x.wrestlers(), n);
            Edge.says("Promise 7", "Returns how many of them are in.");
            Check.same("wrestlersIn()", x.wrestlersIn(), n);
            for (int w = 0; w < n; w++) {
                x.turnIn(w);
                Check.same("wrestlersIn()", x.wrestlersIn(), n - 1 - w);
                Check.same("wrestlers()", x.wrestlers(), n);
            }
        }
        Edge.says("Promise 8", "Returns how many rules there are.");
        for (int n = 0; n <= 16; n++) {
            Check.same("rules()", Check.taught("rule draw;".repeat(n)).rules(), n);
        }
        BeltRounds y = Check.taught("rule draw;".repeat(16));
        Check.same("teach() of 17", Check.teach(y, "rule draw;".repeat(17)), 4);
        Check.same("rules()", y.rules(), 16);
        Edge.says("Promise 9", "Returns how many rounds were paired.");
        for (int n = 0; n <= 20; n++) {
            BeltRounds x = rounds(n);
            Check.same("rounds()", x.rounds(), n);
            Check.same("pairRound()", Check.answerOf(x::pairRound), n < 20 ? 1 : Edge.NO_STATE);
            Check.same("rounds()", x.rounds(), Math.min(n + 1, 20));
        }
        Edge.says("Promise 10", "Returns how many bytes the tape has.");
        BeltRounds z = new BeltRounds();
        Check.same("tapeBytes()", z.tapeBytes(), 0);
        for (int bytes = 20; bytes <= 2000; bytes += 20) {
            z.feed(0, 0, 0, 0, 0);
            Check.same("tapeBytes()", z.tapeBytes(), bytes);
        }
        Check.noState("feed()", () -> z.feed(0, 0, 0, 0, 0));
        Check.same("tapeBytes()", z.tapeBytes(), 2000);
        for (int bytes : new int[] {1999, 1, 0}) {
            z.trim(bytes);
            Check.same("tapeBytes()", z.tapeBytes(), bytes);
        }
    }

    private static void latestRound() {
        for (int n = 0; n <= 12; n++) {
            Edge.says("Promise 11", "Returns how many bouts the latest round has; 0 without a round.");
            BeltRounds x = Check.taught(Edge.many(n));
            Check.same("bouts() without a round", x.bouts(), 0);
            Check.same("pairRound()", Check.answerOf(x::pairRound), n < 2 ? Edge.NO_STATE : n / 2);
            Check.same("bouts() of " + n, x.bouts(), n < 2 ? 0 : n / 2);
            Edge.says("Promise 12", "Returns how many of them have no outcome yet.");
            for (int bout = 0; bout < n / 2; bout++) {
                Check.same("openBouts()", x.openBouts(), n / 2 - bout);
                x.tell(bout, bout % 3);
            }
            Check.same("openBouts()", x.openBouts(), 0);
            Check.same("bouts(), told ones count", x.bouts(), n / 2);
        }
        // The latest round alone: 6 bouts, then 1, then a tournament without a round.
        BeltRounds x = twelve();
        for (int w = 0; w < 10; w++) {
            x.turnIn(w);
        }
        Check.same("bouts()", x.bouts(), 6);
        x.pairRound();
        Check.same("bouts()", x.bouts(), 1);
        Check.same("openBouts()", x.openBouts(), 1);
        Check.teach(x, Edge.many(4));
        Check.same("bouts()", x.bouts(), 0);
        Check.same("openBouts()", x.openBouts(), 0);
    }

    /** The call answers for each wrestler behind twelve(), and refuses all other numbers. */
    private static void wrestlerCall(int promise, String call, Asked asked, Object first, Object last) {
        Edge.says("Promise " + promise, NO_SUCH_WRESTLER);
        Check.same(call + "(0)", asked.of(twelve(), 0), first);
        Check.same(call + "(11)", asked.of(twelve(), 11), last);
        for (int n : OUTSIDE) {
            BeltRounds x = twelve();
            Check.noIndex(call + "(" + n + ")", () -> asked.of(x, n));
        }
        for (int n : new int[] {-1, 12}) {
            Edge.changesNothing(call + "(" + n + ")", CallsEdges::twelve, x -> asked.of(x, n), Edge.NO_INDEX);
        }
        BeltRounds none = new BeltRounds();
        Check.noIndex(call + "(0) without wrestlers", () -> asked.of(none, 0));
        BeltRounds one = Check.taught(Edge.many(1));
        Check.noIndex(call + "(1) of one", () -> asked.of(one, 1));
        // Also who is out is a wrestler; those of a tournament before are none.
        BeltRounds x = twelve();
        x.turnIn(11);
        boolean refused = Edge.NO_INDEX.equals(Check.answerOf(() -> asked.of(x, 11)));
        Check.same(call + "(11), who is out, is refused", refused, false);
        Check.teach(x, Edge.many(11));
        Check.noIndex(call + "(11) of eleven", () -> asked.of(x, 11));
    }

    private static void wrestlerCalls() {
        wrestlerCall(13, "strengthOf", BeltRounds::strengthOf, 100, 89);
        wrestlerCall(14, "pointsOf", BeltRounds::pointsOf, 2, 2);
        wrestlerCall(15, "winsOf", BeltRounds::winsOf, 1, 1);
        wrestlerCall(16, "drawsOf", BeltRounds::drawsOf, 0, 0);
        wrestlerCall(17, "lossesOf", BeltRounds::lossesOf, 0, 0);
        wrestlerCall(18, "restsOf", BeltRounds::restsOf, 0, 0);
        wrestlerCall(19, "beltsOf", BeltRounds::beltsOf, 1, -1);
        wrestlerCall(20, "floatsOf", BeltRounds::floatsOf, 0, 0);
        wrestlerCall(21, "pointsOfMet", BeltRounds::pointsOfMet, 0, 0);
        wrestlerCall(22, "rankOf", BeltRounds::rankOf, 0, 3);
        wrestlerCall(23, "isIn", BeltRounds::isIn, true, true);
        wrestlerCall(25, "timesMet(0, ..)", (x, n) -> x.timesMet(0, n), 0, 0);
        wrestlerCall(25, "timesMet(.., 11)", (x, n) -> x.timesMet(n, 11), 0, 0);
        wrestlerCall(30, "opponentOf", BeltRounds::opponentOf, 1, 10);
        wrestlerCall(35, "turnIn", BeltRounds::turnIn, false, false);
        wrestlerCall(36, "nextOpponentOf", BeltRounds::nextOpponentOf, 5, 6);
        wrestlerCall(39, "pointsAfter", (x, n) -> x.pointsAfter(n, 1), 3, 3);
        BeltRounds x = twelve();
        Edge.says("Promise 14", "Returns how many points this one has.");
        Edge.each("pointsOf", x::pointsOf, 2, 0, 1, 1, 0, 2, 2, 0, 1, 1, 0, 2);
        Edge.says("Promise 15", "Returns how many bouts this one won.");
        Edge.each("winsOf", x::winsOf, 1, 0, 0, 0, 0, 1, 1, 0, 0, 0, 0, 1);
        Edge.says("Promise 16", "Returns how many were draws.");
        Edge.each("drawsOf", x::drawsOf, 0, 0, 1, 1, 0, 0, 0, 0, 1, 1, 0, 0);
        Edge.says("Promise 17", "Returns how many this one lost.");
        Edge.each("lossesOf", x::lossesOf, 0, 1, 0, 0, 1, 0, 0, 1, 0, 0, 1, 0);
        Edge.says("Promise 21", "Returns the points of those whom this one met, each one as often as they met, added.");
        Edge.each("pointsOfMet", x::pointsOfMet, 0, 2, 1, 1, 2, 0, 0, 2, 1, 1, 2, 0);
        Edge.says("Promise 18", "Returns how many times this one rested.");
        BeltRounds y = Check.taught(Edge.many(3) + "points 0 0 0;");
        for (int round = 0; round < 20; round++) {
            Edge.each("restsOf", y::restsOf, round / 3, (round + 1) / 3, (round + 2) / 3);
            y.pairRound();
            draws(y);
        }
        Edge.each("restsOf", y::restsOf, 6, 7, 7);
        Edge.says("Promise 19", "Returns how many times this one had the red belt, less how often the blue one.");
        Edge.each("beltsOf, who had no bout", five()::beltsOf, 1, -1, 1, -1, 0);
        Edge.says("Promise 20", "Returns how many times this one floated.");
        Edge.each("floatsOf", y::floatsOf, 0, 0, 0);
        BeltRounds z = rounds(20);
        // 1 wins as red when 0 has one win more: each second round the one ahead floats.
        Edge.each("floatsOf", z::floatsOf, 10, 0);
    }

    private static void ranks() {
        Edge.says("Promise 22", "Returns how many wrestlers stand ahead, those who are out as well.");
        int[] ranks = {0, 8, 4, 5, 9, 1, 2, 10, 6, 7, 11, 3};
        BeltRounds x = twelve();
        Edge.each("rankOf", x::rankOf, ranks);
        for (int w = 0; w < 12; w++) {
            x.turnIn(w);
        }
        Edge.each("rankOf, all are out", x::rankOf, ranks);
        Check.same("rankOf(0) of one", Check.taught(Edge.many(1)).rankOf(0), 0);
        Edge.says("Promise 24", "Throws `IndexOutOfBoundsException` if rank is not 0 to wrestlers() - 1");
        Edge.each("wrestlerAt, all are out", x::wrestlerAt, 0, 5, 6, 11, 2, 3, 8, 9, 1, 4, 7, 10);
        for (int n = 0; n <= 12; n++) {
            BeltRounds y = Check.taught(Edge.many(n));
            for (int rank = -2; rank <= 14; rank++) {
                int r = rank;
                boolean right = rank >= 0 && rank < n;
                Check.same("wrestlerAt(" + r + ") of " + n, Check.answerOf(() -> y.wrestlerAt(r)),
                        right ? r : Edge.NO_INDEX);
            }
        }
        for (int rank : OUTSIDE) {
            Edge.changesNothing("wrestlerAt(" + rank + ")", CallsEdges::twelve, y -> y.wrestlerAt(rank), Edge.NO_INDEX);
        }
        Edge.changesNothing("wrestlerAt(12)", CallsEdges::twelve, y -> y.wrestlerAt(12), Edge.NO_INDEX);
        // Not the number of those who are in.
        x.turnIn(0);
        Check.same("wrestlerAt(11), one is in", x.wrestlerAt(11), 10);
    }

    private static void meetings() {
        Edge.says("Promise 25", "Returns how many times they met.");
        BeltRounds x = twelve();
        for (int a = 0; a < 12; a++) {
            for (int b = 0; b < 12; b++) {
                Check.same("timesMet(" + a + ", " + b + ")", x.timesMet(a, b), a != b && a / 2 == b / 2 ? 1 : 0);
            }
        }
        BeltRounds y = rounds(20);
        Check.same("timesMet(0, 1)", y.timesMet(0, 1), 20);
        Check.same("timesMet(1, 0)", y.timesMet(1, 0), 20);
        Check.same("timesMet(1, 1), with oneself", y.timesMet(1, 1), 0);
        Edge.says("Promise 25", NO_SUCH_WRESTLER);
        Edge.changesNothing("timesMet(-1, 0)", CallsEdges::five, z -> z.timesMet(-1, 0), Edge.NO_INDEX);
        Edge.changesNothing("timesMet(0, -1)", CallsEdges::five, z -> z.timesMet(0, -1), Edge.NO_INDEX);
        Edge.changesNothing("timesMet(5, 4)", CallsEdges::five, z -> z.timesMet(5, 4), Edge.NO_INDEX);
        Edge.changesNothing("timesMet(4, 5)", CallsEdges::five, z -> z.timesMet(4, 5), Edge.NO_INDEX);
        Edge.changesNothing("timesMet(5, 5)", CallsEdges::five, z -> z.timesMet(5, 5), Edge.NO_INDEX);
        Edge.changesNothing("timesMet(4, 4)", CallsEdges::five, z -> z.timesMet(4, 4), 0);
    }

    /** The call answers for each bout behind twelve(), and refuses all other numbers. */
    private static void boutCall(int promise, String call, Asked asked, Object first, Object last) {
        Edge.says("Promise " + promise, NO_SUCH_BOUT);
        Check.same(call + "(0)", asked.of(twelve(), 0), first);
        Check.same(call + "(5)", asked.of(twelve(), 5), last);
        for (int n : OUTSIDE) {
            BeltRounds x = twelve();
            Check.noIndex(call + "(" + n + ")", () -> asked.of(x, n));
        }
        for (int n : new int[] {-1, 6}) {
            Edge.changesNothing(call + "(" + n + ")", CallsEdges::twelve, x -> asked.of(x, n), Edge.NO_INDEX);
        }
        for (int n : new int[] {-1, 2}) {
            Edge.changesNothing(call + "(" + n + ") of two", CallsEdges::five, x -> asked.of(x, n), Edge.NO_INDEX);
        }
        BeltRounds none = new BeltRounds();
        Check.noIndex(call + "(0) without wrestlers", () -> asked.of(none, 0));
        BeltRounds x = Check.taught(Edge.many(12));
        Check.noIndex(call + "(0) without a round", () -> asked.of(x, 0));
        // Those of a round before are none: now there is one bout.
        BeltRounds y = twelve();
        for (int w = 2; w < 12; w++) {
            y.turnIn(w);
        }
        Check.holds(call + "(5), still of the latest round",
                !Edge.NO_INDEX.equals(Check.answerOf(() -> asked.of(y, 5))));
        y.pairRound();
        Check.noIndex(call + "(1) of one", () -> asked.of(y, 1));
        Check.teach(y, Edge.many(12));
        Check.noIndex(call + "(0) behind teach()", () -> asked.of(y, 0));
    }

    private static void boutCalls() {
        boutCall(26, "redOf", BeltRounds::redOf, 0, 10);
        boutCall(27, "blueOf", BeltRounds::blueOf, 1, 11);
        boutCall(28, "outcomeOf", BeltRounds::outcomeOf, 0, 2);
        boutCall(29, "ruledOutcome", BeltRounds::ruledOutcome, 1, 1);
        Edge.says("Promise 33", NO_SUCH_BOUT);
        for (int n : OUTSIDE) {
            Edge.changesNothing("tell(" + n + ", 0)", CallsEdges::five, x -> x.tell(n, 0), Edge.NO_INDEX);
        }
        Edge.changesNothing("tell(2, 0)", CallsEdges::five, x -> x.tell(2, 0), Edge.NO_INDEX);
        Edge.changesNothing("tell(0, 0)", () -> Check.taught(Edge.many(5)), x -> x.tell(0, 0), Edge.NO_INDEX);
        Check.same("tell(1, 0)", five().tell(1, 0), 1);
        Check.same("tell(0, 0)", five().tell(0, 0), 1);
        Edge.says("Promise 29", "Returns the outcome that the rules tell now (nothing is changed).");
        Edge.changesNothing("ruledOutcome(0)", CallsEdges::five, x -> x.ruledOutcome(0), 0);
        Edge.changesNothing("ruledOutcome(1)", CallsEdges::five, x -> x.ruledOutcome(1), 0);
        Edge.changesNothing("ruledOutcome(1), of a told one", CallsEdges::twelve, x -> x.ruledOutcome(0), 1);
    }

    private static void outcomes() {
        Edge.says("Promise 28", "Throws `IllegalStateException` if it has none yet");
        Edge.changesNothing("outcomeOf(0)", CallsEdges::five, x -> x.outcomeOf(0), Edge.NO_STATE);
        Edge.changesNothing("outcomeOf(1)", CallsEdges::five, x -> x.outcomeOf(1), Edge.NO_STATE);
        for (int outcome = 0; outcome <= 2; outcome++) {
            BeltRounds x = five();
            x.tell(1, outcome);
            Check.same("outcomeOf(1)", x.outcomeOf(1), outcome);
            Check.noState("outcomeOf(0)", () -> x.outcomeOf(0));
            x.tell(0, 2 - outcome);
            Edge.each("outcomeOf", x::outcomeOf, 2 - outcome, outcome);
            x.pairRound();
            Check.noState("outcomeOf(0) of the next round", () -> x.outcomeOf(0));
        }
    }

    private static void opponents() {
        Edge.says("Promise 30", "Throws `IllegalStateException` if there is no round, or this one has no bout in it");
        Edge.Maker none = () -> Check.taught(Edge.many(5));
        Edge.changesNothing("opponentOf(0) without a round", none, x -> x.opponentOf(0), Edge.NO_STATE);
        Edge.changesNothing("opponentOf(3)", CallsEdges::five, x -> x.opponentOf(3), 2);
        Edge.changesNothing("opponentOf(4), who rests", CallsEdges::five, x -> x.opponentOf(4), Edge.NO_STATE);
        Edge.Maker out = () -> {
            BeltRounds x = none.make();
            x.turnIn(1);
            x.pairRound();
            x.turnIn(0);
            x.turnIn(1);
            return x;
        };
        Edge.changesNothing("opponentOf(1), who was out", out, x -> x.opponentOf(1), Edge.NO_STATE);
        Edge.changesNothing("opponentOf(0), who is out since", out, x -> x.opponentOf(0), 2);
        BeltRounds x = five();
        Check.teach(x, Edge.many(5));
        Check.noState("opponentOf(0) behind teach()", () -> x.opponentOf(0));
    }

    private static void resting() {
        Edge.says("Promise 31", "Throws `IllegalStateException` if there is no round, or nobody rests");
        Edge.changesNothing("restingOne() of a new object", BeltRounds::new, BeltRounds::restingOne, Edge.NO_STATE);
        Edge.changesNothing("restingOne() without a round", () -> Check.taught(Edge.many(5)), BeltRounds::restingOne,
                Edge.NO_STATE);
        Edge.changesNothing("restingOne() of twelve", CallsEdges::twelve, BeltRounds::restingOne, Edge.NO_STATE);
        Edge.changesNothing("restingOne() of five", CallsEdges::five, BeltRounds::restingOne, 4);
        BeltRounds first = Check.taught(Edge.many(3).replaceFirst("100", "1"));
        first.pairRound();
        Check.same("restingOne(), the wrestler 0", first.restingOne(), 0);
        BeltRounds x = five();
        draws(x);
        x.turnIn(0);
        Check.same("restingOne() until the next round", x.restingOne(), 4);
        x.pairRound();
        Check.noState("restingOne() of four", x::restingOne);
        BeltRounds y = five();
        Check.teach(y, "rule");
        Check.same("restingOne() behind an error", y.restingOne(), 4);
        Check.teach(y, Edge.many(5));
        Check.noState("restingOne() behind teach()", y::restingOne);
    }

    private static void pairing() {
        Edge.says("Promise 32", "Throws `IllegalStateException` if a round is open, 20 rounds were paired, "
                + "or fewer than two wrestlers are in");
        for (int n = 0; n <= 3; n++) {
            int in = n;
            Edge.Maker some = () -> Check.taught(Edge.many(in));
            Edge.Maker others = () -> {
                BeltRounds x = Check.taught(Edge.many(12));
                for (int w = 0; w < 12 - in; w++) {
                    x.turnIn(w);
                }
                return x;
            };
            Check.same("pairRound() of " + n, Check.answerOf(some.make()::pairRound), n < 2 ? Edge.NO_STATE : 1);
            Check.same("pairRound() with " + n + " in", Check.answerOf(others.make()::pairRound),
                    n < 2 ? Edge.NO_STATE : 1);
            if (n < 2) {
                Edge.changesNothing("pairRound() of " + n, some, BeltRounds::pairRound, Edge.NO_STATE);
                Edge.changesNothing("pairRound() with " + n + " in", others, BeltRounds::pairRound, Edge.NO_STATE);
            }
        }
        Edge.changesNothing("pairRound() of an open round", CallsEdges::five, BeltRounds::pairRound, Edge.NO_STATE);
        Edge.changesNothing("pairRound(), one bout is open", () -> {
            BeltRounds x = twelve();
            x.pairRound();
            for (int bout = 0; bout < 5; bout++) {
                x.tell(bout, 0);
            }
            return x;
        }, BeltRounds::pairRound, Edge.NO_STATE);
        Check.same("pairRound() of all told", twelve().pairRound(), 6);
        Check.same("pairRound(), the 20th", rounds(19).pairRound(), 1);
        Edge.changesNothing("pairRound(), the 21st", () -> rounds(20), BeltRounds::pairRound, Edge.NO_STATE);
        Edge.says("Promise 32", "Pairs the next round; who rests has the points of it at once.");
        for (int worth : new int[] {0, 1, 9}) {
            BeltRounds x = Check.taught(Edge.many(3) + "points 5 5 " + worth + ";");
            x.pairRound();
            Edge.each("pointsOf", x::pointsOf, 0, 0, worth);
        }
    }

    private static void telling() {
        Edge.says("Promise 33", "Throws `IllegalArgumentException` if outcome is not 0 to 2");
        for (int outcome : new int[] {-1, 3, -2, 4, Edge.LEAST, Edge.MOST}) {
            Edge.changesNothing("tell(1, " + outcome + ")", CallsEdges::five, x -> x.tell(1, outcome),
                    Edge.NO_ARGUMENT);
        }
        for (int outcome = 0; outcome <= 2; outcome++) {
            BeltRounds x = five();
            Check.same("tell()", x.tell(0, outcome), 1);
            Check.same("outcomeOf(0)", x.outcomeOf(0), outcome);
        }
        Edge.says("Promise 33", "Throws `IllegalStateException` if it has one");
        for (int told = 0; told <= 2; told++) {
            for (int again = 0; again <= 2; again++) {
                int first = told;
                int second = again;
                Edge.Maker maker = () -> {
                    BeltRounds x = five();
                    x.tell(0, first);
                    return x;
                };
                Edge.changesNothing("tell(0, " + again + ") again", maker, x -> x.tell(0, second), Edge.NO_STATE);
                Check.same("tell(1, " + again + ")", maker.make().tell(1, again), 0);
            }
        }
        Edge.says("Promise 33", "Returns how many bouts have none then.");
        BeltRounds x = Check.taught(Edge.many(12));
        x.pairRound();
        int[] order = {3, 5, 0, 1, 4, 2};
        for (int i = 0; i < 6; i++) {
            Check.same("tell()", x.tell(order[i], i % 3), 5 - i);
        }
    }

    private static void tellingByRules() {
        Edge.says("Promise 34", "Throws `IllegalStateException` if no bout is without an outcome");
        Edge.changesNothing("tellByRules() of a new object", BeltRounds::new, BeltRounds::tellByRules, Edge.NO_STATE);
        Edge.changesNothing("tellByRules() without a round", () -> Check.taught(Edge.many(4)), BeltRounds::tellByRules,
                Edge.NO_STATE);
        Edge.changesNothing("tellByRules() of all told", CallsEdges::twelve, BeltRounds::tellByRules, Edge.NO_STATE);
        Edge.changesNothing("tellByRules() again", () -> rounds(1), BeltRounds::tellByRules, Edge.NO_STATE);
        Edge.says("Promise 34", "Returns how many red wins there are among these.");
        for (int open = 1; open <= 6; open++) {
            for (String rule : new String[] {"rule red wins;", "rule draw;", "rule blue wins;", ""}) {
                BeltRounds x = Check.taught(Edge.many(12) + rule);
                x.pairRound();
                for (int bout = open; bout < 6; bout++) {
                    x.tell(bout, 0);
                }
                Check.same("tellByRules() of " + open, x.tellByRules(), rule.startsWith("rule red") ? open : 0);
                Check.same("openBouts()", x.openBouts(), 0);
                int due = rule.startsWith("rule r") ? 0 : rule.startsWith("rule b") ? 2 : 1;
                Check.same("outcomeOf(0)", x.outcomeOf(0), due);
                Check.same("outcomeOf(5)", x.outcomeOf(5), open == 6 ? due : 0);
            }
        }
    }

    private static void turning() {
        Edge.says("Promise 35", "Takes a wrestler out, or in again, who is out; it is so from the next round on.");
        BeltRounds x = five();
        for (int w : new int[] {0, 4}) {
            Check.same("turnIn(" + w + ")", x.turnIn(w), false);
            Check.same("isIn(" + w + ")", x.isIn(w), false);
        }
        // The round that is paired stays.
        Check.same("bouts()", x.bouts(), 2);
        Check.same("opponentOf(1)", x.opponentOf(1), 0);
        Check.same("restingOne()", x.restingOne(), 4);
        Check.same("tell(0, 0)", x.tell(0, 0), 1);
        Check.same("pointsOf(0), who is out", x.pointsOf(0), 2);
        Check.same("tellByRules()", x.tellByRules(), 1);
        Check.same("pairRound()", x.pairRound(), 1);
        Check.noState("opponentOf(0)", () -> x.opponentOf(0));
        Check.noState("opponentOf(4)", () -> x.opponentOf(4));
        // In again in the midst of a round: from the next one on.
        Check.same("turnIn(0)", x.turnIn(0), true);
        Check.noState("opponentOf(0)", () -> x.opponentOf(0));
        x.tellByRules();
        Check.same("pairRound()", x.pairRound(), 2);
        Check.holds("opponentOf(0)", Check.answerOf(() -> x.opponentOf(0)) instanceof Integer);
        Edge.says("Promise 35", "Returns whether this one is in then.");
        Edge.changesNothing("turnIn() twice", CallsEdges::five, y -> y.turnIn(3) || y.turnIn(3), true);
        BeltRounds all = Check.taught(Edge.many(12));
        for (int w = 0; w < 12; w++) {
            Check.same("turnIn(" + w + ")", all.turnIn(w), false);
        }
        Check.same("wrestlersIn()", all.wrestlersIn(), 0);
        for (int w = 0; w < 12; w++) {
            Check.same("turnIn(" + w + ")", all.turnIn(w), true);
        }
        Check.same("wrestlersIn()", all.wrestlersIn(), 12);
    }

    private static void nextOpponents() {
        Edge.says("Promise 36", "Throws `IllegalStateException` if no round can be paired now, "
                + "or this one would have no bout in it");
        Edge.changesNothing("nextOpponentOf(0), a round is open", CallsEdges::five, x -> x.nextOpponentOf(0),
                Edge.NO_STATE);
        Edge.changesNothing("nextOpponentOf(0), one alone", () -> Check.taught(Edge.many(1)), x -> x.nextOpponentOf(0),
                Edge.NO_STATE);
        Edge.changesNothing("nextOpponentOf(0), two", () -> Check.taught(Edge.many(2)), x -> x.nextOpponentOf(0), 1);
        Edge.changesNothing("nextOpponentOf(0), round 20", () -> rounds(19), x -> x.nextOpponentOf(0), 1);
        Edge.changesNothing("nextOpponentOf(0), round 21", () -> rounds(20), x -> x.nextOpponentOf(0), Edge.NO_STATE);
        Edge.Maker three = () -> Check.taught(Edge.many(3));
        Edge.changesNothing("nextOpponentOf(1)", three, x -> x.nextOpponentOf(1), 0);
        Edge.changesNothing("nextOpponentOf(2), who would rest", three, x -> x.nextOpponentOf(2), Edge.NO_STATE);
        Edge.Maker out = () -> {
            BeltRounds x = three.make();
            x.turnIn(1);
            return x;
        };
        Edge.changesNothing("nextOpponentOf(1), who is out", out, x -> x.nextOpponentOf(1), Edge.NO_STATE);
        Edge.changesNothing("nextOpponentOf(2)", out, x -> x.nextOpponentOf(2), 0);
        Edge.Maker alone = () -> {
            BeltRounds x = out.make();
            x.turnIn(0);
            return x;
        };
        Edge.changesNothing("nextOpponentOf(2), alone in", alone, x -> x.nextOpponentOf(2), Edge.NO_STATE);
        Edge.says("Promise 36",
                "Returns whom this one would meet if the next round was paired now (nothing is changed).");
        BeltRounds x = twelve();
        int[] due = new int[12];
        for (int w = 0; w < 12; w++) {
            due[w] = x.nextOpponentOf(w);
        }
        x.pairRound();
        Edge.each("opponentOf", x::opponentOf, due);
    }

    private static void nextRematches() {
        Edge.says("Promise 37", "Throws `IllegalStateException` if no round can be paired now");
        Edge.changesNothing("nextRematches() of a new object", BeltRounds::new, BeltRounds::nextRematches,
                Edge.NO_STATE);
        Edge.changesNothing("nextRematches() of one", () -> Check.taught(Edge.many(1)), BeltRounds::nextRematches,
                Edge.NO_STATE);
        Edge.changesNothing("nextRematches() of two", () -> Check.taught(Edge.many(2)), BeltRounds::nextRematches, 0);
        Edge.changesNothing("nextRematches(), a round is open", CallsEdges::five, BeltRounds::nextRematches,
                Edge.NO_STATE);
        Edge.changesNothing("nextRematches(), round 2", () -> rounds(1), BeltRounds::nextRematches, 1);
        Edge.changesNothing("nextRematches(), round 20", () -> rounds(19), BeltRounds::nextRematches, 1);
        Edge.changesNothing("nextRematches(), round 21", () -> rounds(20), BeltRounds::nextRematches, Edge.NO_STATE);
        Edge.changesNothing("nextRematches() of twelve", CallsEdges::twelve, BeltRounds::nextRematches, 0);
    }

    private static void leaders() {
        Edge.says("Promise 38", "Throws `IllegalArgumentException` if rounds is not 1 to 10");
        for (int rounds : new int[] {0, 11, -1, 12, Edge.LEAST, Edge.MOST}) {
            Edge.changesNothing("leaderAfter(" + rounds + ")", CallsEdges::five, x -> x.leaderAfter(rounds),
                    Edge.NO_ARGUMENT);
        }
        for (int rounds = 1; rounds <= 10; rounds++) {
            int more = rounds;
            Object due = leaderPlayed(five(), more);
            Edge.changesNothing("leaderAfter(" + rounds + ")", CallsEdges::five, x -> x.leaderAfter(more), due);
        }
        Edge.says("Promise 38", "Throws `IllegalStateException` if there are no wrestlers");
        Edge.changesNothing("leaderAfter(1) of none", BeltRounds::new, x -> x.leaderAfter(1), Edge.NO_STATE);
        Edge.changesNothing("leaderAfter(10) of none", () -> Check.taught("rule draw;"), x -> x.leaderAfter(10),
                Edge.NO_STATE);
        Edge.changesNothing("leaderAfter(1) of one", () -> Check.taught(Edge.many(1)), x -> x.leaderAfter(1), 0);
        Edge.changesNothing("leaderAfter(10), all are out", () -> {
            BeltRounds x = Check.taught(Edge.many(2).replaceFirst("100", "1"));
            x.turnIn(0);
            x.turnIn(1);
            return x;
        }, x -> x.leaderAfter(10), 1);
    }

    /** Plays an object on, by the rules: first its open bouts, then so many rounds, or as many as can be paired. */
    private static int leaderPlayed(BeltRounds x, int more) {
        if (x.openBouts() > 0) {
            x.tellByRules();
        }
        for (int i = 0; i < more; i++) {
            if (Check.answerOf(x::pairRound) instanceof Integer) {
                x.tellByRules();
            }
        }
        return x.wrestlerAt(0);
    }

    private static void pointsAfter() {
        Edge.says("Promise 39", "Throws `IllegalArgumentException` if rounds is not 1 to 10");
        for (int rounds : new int[] {0, 11, -1, 12, Edge.LEAST, Edge.MOST}) {
            Edge.changesNothing("pointsAfter(0, " + rounds + ")", CallsEdges::five, x -> x.pointsAfter(0, rounds),
                    Edge.NO_ARGUMENT);
        }
        for (int rounds = 1; rounds <= 10; rounds++) {
            BeltRounds played = five();
            leaderPlayed(played, rounds);
            for (int w : new int[] {0, 4}) {
                int more = rounds;
                Edge.changesNothing("pointsAfter(" + w + ", " + rounds + ")", CallsEdges::five,
                        x -> x.pointsAfter(w, more), played.pointsOf(w));
            }
        }
    }

    private static void roundsThatCanBePaired() {
        Edge.says("Promise 38", "Returns who would stand first behind so many more rounds, or as many as can be "
                + "paired, if all bouts are told by the rules, those of now first (nothing is changed).");
        String text = Edge.many(2) + "points 1 0 0; rule red wins when strength red = 99;"
                + "rule blue wins when strength blue = 99;";
        for (int told = 10; told <= 20; told++) {
            BeltRounds x = Check.taught(text);
            for (int i = 0; i < told; i++) {
                x.pairRound();
                x.tellByRules();
            }
            for (int more = 1; more <= 10; more++) {
                // 1 wins each bout.
                Check.same("pointsAfter(1, " + more + ")", x.pointsAfter(1, more), Math.min(told + more, 20));
                Check.same("pointsAfter(0, " + more + ")", x.pointsAfter(0, more), 0);
                Check.same("leaderAfter(" + more + ")", x.leaderAfter(more), 1);
            }
        }
        // The open bout of the 20th round is told, though no round can be paired behind it.
        BeltRounds y = rounds(19);
        y.pairRound();
        int red = y.redOf(0);
        Check.same("pointsAfter()", y.pointsAfter(red, 1), y.pointsOf(red) + 1);
        Check.same("pointsAfter()", y.pointsAfter(1 - red, 10), y.pointsOf(1 - red));
        // Fewer than two are in: only the open bout is told.
        BeltRounds z = rounds(0);
        z.pairRound();
        z.turnIn(1);
        Check.same("pointsAfter(0, 10)", z.pointsAfter(0, 10), 1);
        Check.same("leaderAfter(10)", z.leaderAfter(10), 0);
        Check.same("isIn(1)", z.isIn(1), false);
        // The bouts of now first: they decide who is paired, or leads, behind them.
        BeltRounds t = Check.taught(Edge.many(2) + "points 1 0 0; rule blue wins when round = 0;");
        t.pairRound();
        Check.same("leaderAfter(1), now a loss, then a draw", t.leaderAfter(1), 1);
        t.tell(0, 0);
        Check.same("leaderAfter(1), now a win", t.leaderAfter(1), 0);
    }

    private static void meanPoints() {
        Edge.says("Promise 40", "Returns the mean of the points of all wrestlers; 0 without any.");
        Check.same("meanPoints() of none", new BeltRounds().meanPoints(), 0.0);
        Check.same("meanPoints() of none", Check.taught("points 9 9 9;").meanPoints(), 0.0);
        Check.same("meanPoints() of one", Check.taught(Edge.many(1)).meanPoints(), 0.0);
        BeltRounds x = Check.taught(Edge.many(3) + "points 0 0 1;");
        x.pairRound();
        Check.same("meanPoints()", x.meanPoints(), 1.0 / 3);
        x.turnIn(0);
        x.turnIn(2);
        Check.same("meanPoints(), those who are out count", x.meanPoints(), 1.0 / 3);
        Check.same("meanPoints()", twelve().meanPoints(), 1.0);
        Check.same("meanPoints()", rounds(20).meanPoints(), 10.0);
        Check.same("meanPoints()", rounds(19).meanPoints(), 9.5);
    }

    /** As the document tells it, in numbers that have no end, cut to 64 bits at last. */
    private static long dueDigest(BeltRounds x) {
        int n = x.wrestlers();
        BigInteger d = BigInteger.valueOf(967);
        d = more(d, n, x.wrestlersIn(), x.rules(), x.rounds(), x.tapeBytes(), x.bouts(), x.openBouts());
        for (int w = 0; w < n; w++) {
            d = more(d, x.strengthOf(w), x.pointsOf(w), x.winsOf(w), x.drawsOf(w), x.lossesOf(w), x.restsOf(w));
            d = more(d, x.beltsOf(w), x.floatsOf(w), x.pointsOfMet(w), x.rankOf(w), x.isIn(w) ? 1 : 0);
            for (int other = 0; other < n; other++) {
                d = more(d, x.timesMet(w, other));
            }
        }
        for (int bout = 0; bout < x.bouts(); bout++) {
            int b = bout;
            Object outcome = Check.answerOf(() -> x.outcomeOf(b));
            d = more(d, x.redOf(bout), x.blueOf(bout), outcome instanceof Integer ? (Integer) outcome : -1);
        }
        return d.longValue();
    }

    private static BigInteger more(BigInteger d, int... numbers) {
        BigInteger sum = d;
        for (int number : numbers) {
            sum = sum.multiply(BigInteger.valueOf(31)).add(BigInteger.valueOf(number));
        }
        return sum;
    }

    private static void digest() {
        Edge.says("Promise 41",
                "A number d starts with 967; for each of the following numbers x, d becomes d * 31 + x");
        Check.same("digest() of a new object", new BeltRounds().digest(), 967L * 31 * 31 * 31 * 31 * 31 * 31 * 31);
        BeltRounds rule = Check.taught("rule draw;");
        Check.same("digest() of a rule", rule.digest(), 967L * 31 * 31 * 31 * 31 * 31 * 31 * 31 + 31 * 31 * 31 * 31);
        Edge.says("Promise 41", "(whether something is so counts 1 or 0)");
        BeltRounds one = Check.taught(Edge.many(1));
        Check.same("digest() of one", one.digest(), dueDigest(one));
        one.turnIn(0);
        Check.same("digest(), out", one.digest(), dueDigest(one));
        Edge.says("Promise 41", "for each bout redOf(), blueOf(), its outcome (-1 without one) (all in their order)");
        for (int told = -1; told <= 2; told++) {
            BeltRounds x = five();
            if (told >= 0) {
                x.tell(1, told);
            }
            Check.same("digest()", x.digest(), dueDigest(x));
            BeltRounds y = Check.taught(Edge.many(2));
            y.pairRound();
            long open = y.digest();
            if (told >= 0) {
                // One bout less is open, and the last number is the outcome; all between changes as well.
                y.tell(0, told);
                Check.holds("digest() of another outcome", open != y.digest());
            }
            Check.same("digest()", y.digest(), dueDigest(y));
        }
    }

    private static void digestWraps() {
        Edge.says("Promise 41", "which wraps around as a 64-bit integer");
        for (int n = 0; n <= 12; n++) {
            BeltRounds x = Check.taught(Edge.many(n));
            Check.same("digest() of " + n, x.digest(), dueDigest(x));
            // Another object, as dueDigest() makes many calls.
            BeltRounds y = Check.taught(Edge.many(n));
            Check.answerOf(y::pairRound);
            Check.same("digest() of " + n + " in a round", y.digest(), dueDigest(y));
        }
        Edge.changesNothing("digest()", RoundsEdges::inTheMidst, BeltRounds::digest,
                dueDigest(RoundsEdges.inTheMidst()));
        for (int n : new int[] {0, 20}) {
            BeltRounds x = rounds(n);
            Check.feed(x, "x".repeat(2000));
            Check.same("digest()", x.digest(), dueDigest(x));
        }
    }
}
