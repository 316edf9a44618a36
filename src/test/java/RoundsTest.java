/** The tournament and its rounds: promises 6 to 9 and 11 to 41. */
public final class RoundsTest {
    private static final int LEAST = Integer.MIN_VALUE;
    private static final int MOST = Integer.MAX_VALUE;

    // Order at first: bor 1, cei 2, ann 0, dun 3.
    private static final String FOUR = "wrestler ann strength 50; wrestler bor strength 70;"
            + "wrestler cei strength 60; wrestler dun strength 40;";
    // Order at first: b 1, c 2, a 0.
    private static final String THREE = "wrestler a strength 5; wrestler b strength 7; wrestler c strength 6;";
    private static final String TWO = "wrestler a strength 9; wrestler b strength 9;";

    public static void main(String[] args) {
        fourRounds();
        promises6To9();
        promises11And12();
        noSuchWrestler();
        noSuchBout();
        promises16And17();
        promise18Rests();
        promise19Belts();
        promise20Floats();
        promises22And24();
        promise23And35();
        promise28Outcome();
        promise29Ruled();
        promise30And31();
        promise32PairRound();
        pairing();
        promise33Tell();
        promise34ByRules();
        promise36And37();
        promise38And39();
        promise40Mean();
        promise41Digest();
        throwingChangesNothing();
        Check.end("RoundsTest");
    }

    private interface Count {
        int of(int wrestler);
    }

    private static void each(String what, Count count, int... due) {
        for (int i = 0; i < due.length; i++) {
            Check.same(what + " of " + i, count.of(i), due[i]);
        }
    }

    private static void bout(BeltRounds x, int bout, int red, int blue) {
        Check.same("redOf(" + bout + ") of round " + x.rounds(), x.redOf(bout), red);
        Check.same("blueOf(" + bout + ") of round " + x.rounds(), x.blueOf(bout), blue);
    }

    /** Reckoned by hand. */
    private static void fourRounds() {
        BeltRounds x = Check.taught(FOUR);
        each("strengthOf", x::strengthOf, 50, 70, 60, 40);
        each("rankOf", x::rankOf, 2, 0, 1, 3);
        each("wrestlerAt", x::wrestlerAt, 1, 2, 0, 3);
        Check.same("pairRound()", x.pairRound(), 2);
        bout(x, 0, 1, 2);
        bout(x, 1, 0, 3);
        Check.same("tell()", x.tell(0, 0), 1);
        Check.same("tell()", x.tell(1, 2), 0);
        each("pointsOf", x::pointsOf, 0, 2, 0, 2);
        each("pointsOfMet", x::pointsOfMet, 2, 0, 2, 0);
        each("rankOf", x::rankOf, 3, 0, 2, 1);
        Check.same("pairRound()", x.pairRound(), 2);
        bout(x, 0, 3, 1);
        bout(x, 1, 2, 0);
        each("beltsOf", x::beltsOf, 0, 0, 0, 0);
        each("floatsOf", x::floatsOf, 0, 0, 0, 0);
        Check.same("tell()", x.tell(1, 0), 1);
        Check.same("tell()", x.tell(0, 1), 0);
        each("pointsOf", x::pointsOf, 0, 3, 2, 3);
        each("pointsOfMet", x::pointsOfMet, 5, 5, 3, 3);
        each("wrestlerAt", x::wrestlerAt, 1, 3, 2, 0);
        // Those who have not met yet: bor and ann, dun and cei.
        Check.same("pairRound()", x.pairRound(), 2);
        bout(x, 0, 1, 0);
        bout(x, 1, 3, 2);
        each("floatsOf", x::floatsOf, 0, 1, 0, 1);
        each("beltsOf", x::beltsOf, -1, 1, -1, 1);
        each("pointsOfMet, with those who are met now", x::pointsOfMet, 8, 5, 6, 5);
        x.tell(0, 2);
        x.tell(1, 0);
        each("pointsOf", x::pointsOf, 2, 3, 2, 5);
        each("pointsOfMet", x::pointsOfMet, 10, 9, 10, 7);
        each("wrestlerAt", x::wrestlerAt, 3, 1, 2, 0);
        Check.same("nextRematches()", x.nextRematches(), 2);
        each("nextOpponentOf", x::nextOpponentOf, 2, 3, 0, 1);
        x.pairRound();
        bout(x, 0, 3, 1);
        bout(x, 1, 2, 0);
        each("floatsOf", x::floatsOf, 0, 1, 0, 2);
        Check.same("timesMet(1, 3)", x.timesMet(1, 3), 2);
        Check.same("timesMet(3, 1)", x.timesMet(3, 1), 2);
        Check.same("timesMet(0, 3)", x.timesMet(0, 3), 1);
        Check.same("timesMet(2, 2)", x.timesMet(2, 2), 0);
        each("pointsOfMet, each one as often as they met", x::pointsOfMet, 12, 14, 12, 10);
        each("winsOf", x::winsOf, 1, 1, 1, 2);
        each("drawsOf", x::drawsOf, 0, 1, 0, 1);
        each("lossesOf", x::lossesOf, 2, 1, 2, 0);
    }

    private static void promises6To9() {
        BeltRounds x = Check.taught(THREE + "rule draw when met; points 1 1 1; rule red wins;");
        Check.same("wrestlers()", x.wrestlers(), 3);
        Check.same("wrestlersIn()", x.wrestlersIn(), 3);
        Check.same("rules()", x.rules(), 2);
        Check.same("rounds()", x.rounds(), 0);
        x.turnIn(1);
        Check.same("wrestlers()", x.wrestlers(), 3);
        Check.same("wrestlersIn()", x.wrestlersIn(), 2);
        x.pairRound();
        Check.same("rounds(), of an open round", x.rounds(), 1);
        x.tellByRules();
        Check.same("rounds()", x.rounds(), 1);
        x.leaderAfter(10);
        Check.same("rounds()", x.rounds(), 1);
        x.turnIn(1);
        x.turnIn(0);
        x.turnIn(2);
        Check.same("wrestlersIn()", x.wrestlersIn(), 1);
        x.turnIn(1);
        Check.same("wrestlersIn()", x.wrestlersIn(), 0);
    }

    private static void promises11And12() {
        BeltRounds x = Check.taught(FOUR + "wrestler ebb strength 1;");
        Check.same("bouts()", x.bouts(), 0);
        Check.same("openBouts()", x.openBouts(), 0);
        x.pairRound();
        Check.same("bouts()", x.bouts(), 2);
        Check.same("openBouts()", x.openBouts(), 2);
        x.tell(1, 1);
        Check.same("bouts()", x.bouts(), 2);
        Check.same("openBouts()", x.openBouts(), 1);
        x.tell(0, 1);
        Check.same("openBouts()", x.openBouts(), 0);
        x.turnIn(0);
        x.turnIn(1);
        Check.same("bouts()", x.bouts(), 2);
        x.pairRound();
        Check.same("bouts()", x.bouts(), 1);
    }

    private static void noSuchWrestler() {
        BeltRounds x = Check.taught(THREE);
        x.pairRound();
        for (int w : new int[] {LEAST, -1, 3, 12, MOST}) {
            Check.noIndex("strengthOf", () -> x.strengthOf(w));
            Check.noIndex("pointsOf", () -> x.pointsOf(w));
            Check.noIndex("winsOf", () -> x.winsOf(w));
            Check.noIndex("drawsOf", () -> x.drawsOf(w));
            Check.noIndex("lossesOf", () -> x.lossesOf(w));
            Check.noIndex("restsOf", () -> x.restsOf(w));
            Check.noIndex("beltsOf", () -> x.beltsOf(w));
            Check.noIndex("floatsOf", () -> x.floatsOf(w));
            Check.noIndex("pointsOfMet", () -> x.pointsOfMet(w));
            Check.noIndex("rankOf", () -> x.rankOf(w));
            Check.noIndex("isIn", () -> x.isIn(w));
            Check.noIndex("wrestlerAt", () -> x.wrestlerAt(w));
            Check.noIndex("timesMet", () -> x.timesMet(w, 0));
            Check.noIndex("timesMet", () -> x.timesMet(0, w));
            Check.noIndex("opponentOf", () -> x.opponentOf(w));
            Check.noIndex("turnIn", () -> x.turnIn(w));
            Check.noIndex("nextOpponentOf", () -> x.nextOpponentOf(w));
            Check.noIndex("pointsAfter", () -> x.pointsAfter(w, 1));
            Check.noIndex("pointsAfter", () -> x.pointsAfter(w, 0));
        }
        BeltRounds y = new BeltRounds();
        Check.noIndex("strengthOf", () -> y.strengthOf(0));
        Check.noIndex("wrestlerAt", () -> y.wrestlerAt(0));
        Check.noIndex("timesMet", () -> y.timesMet(0, 0));
        Check.noIndex("opponentOf", () -> y.opponentOf(0));
        Check.noIndex("nextOpponentOf", () -> y.nextOpponentOf(0));
    }

    private static void noSuchBout() {
        BeltRounds x = Check.taught(FOUR);
        Check.noIndex("redOf", () -> x.redOf(0));
        Check.noIndex("tell", () -> x.tell(0, 0));
        x.pairRound();
        for (int bout : new int[] {LEAST, -1, 2, 6, MOST}) {
            Check.noIndex("redOf", () -> x.redOf(bout));
            Check.noIndex("blueOf", () -> x.blueOf(bout));
            Check.noIndex("outcomeOf", () -> x.outcomeOf(bout));
            Check.noIndex("ruledOutcome", () -> x.ruledOutcome(bout));
            Check.noIndex("tell", () -> x.tell(bout, 0));
            Check.noIndex("tell", () -> x.tell(bout, 3));
        }
    }

    private static void promises16And17() {
        BeltRounds x = Check.taught(TWO + "points 3 1 2;");
        int[] outcomes = {0, 1, 2, 0, 0, 1, 2};
        for (int outcome : outcomes) {
            x.pairRound();
            x.tell(0, outcome);
        }
        Check.same("drawsOf(0)", x.drawsOf(0), 2);
        Check.same("drawsOf(1)", x.drawsOf(1), 2);
        Check.same("winsOf(0)", x.winsOf(0), x.lossesOf(1));
        Check.same("winsOf(1)", x.winsOf(1), x.lossesOf(0));
        Check.same("winsOf(0) and winsOf(1)", x.winsOf(0) + x.winsOf(1), 5);
        Check.same("pointsOf(0)", x.pointsOf(0), 3 * x.winsOf(0) + 2);
    }

    private static void promise18Rests() {
        BeltRounds x = Check.taught(THREE + "points 2 1 0;");
        x.pairRound();
        Check.same("restingOne(), the last one", x.restingOne(), 0);
        each("restsOf", x::restsOf, 1, 0, 0);
        each("pointsOf, a rest is worth 0", x::pointsOf, 0, 0, 0);
        x.tell(0, 2);
        // c 2, b 0 (met c), a 0: b rests, the last one of b and c, who have not rested.
        x.pairRound();
        Check.same("restingOne()", x.restingOne(), 1);
        x.tell(0, 1);
        x.pairRound();
        Check.same("restingOne()", x.restingOne(), 2);
        each("restsOf", x::restsOf, 1, 1, 1);
        x.tell(0, 1);
        // c 3 first, then a 2 (met c, b) and b 1: all rested once, so the last one does.
        each("pointsOf", x::pointsOf, 2, 1, 3);
        x.pairRound();
        Check.same("restingOne()", x.restingOne(), 1);
        x.tell(0, 1);
        // Who is out does not rest, nor does one of two.
        x.turnIn(0);
        x.pairRound();
        Check.noState("restingOne()", () -> x.restingOne());
        each("restsOf", x::restsOf, 1, 2, 1);
        // Rests at once have their points.
        BeltRounds y = Check.taught(THREE + "points 0 0 7;");
        y.pairRound();
        each("pointsOf", y::pointsOf, 7, 0, 0);
        // The rests of those who are out do not count.
        BeltRounds z = Check.taught(FOUR + "wrestler ebb strength 1; wrestler fen strength 2;");
        z.turnIn(5);
        z.pairRound();
        Check.same("restingOne()", z.restingOne(), 4);
        z.tellByRules();
        z.turnIn(5);
        z.turnIn(0);
        z.pairRound();
        Check.same("restingOne()", z.restingOne(), 5);
    }

    private static void promise19Belts() {
        BeltRounds x = Check.taught(TWO);
        x.pairRound();
        bout(x, 0, 0, 1);
        each("beltsOf", x::beltsOf, 1, -1);
        x.tell(0, 2);
        x.pairRound();
        bout(x, 0, 1, 0);
        each("beltsOf", x::beltsOf, 0, 0);
        x.tell(0, 0);
        // b is far ahead, but a had the blue belt.
        x.pairRound();
        Check.same("wrestlerAt(0)", x.wrestlerAt(0), 1);
        bout(x, 0, 0, 1);
        each("beltsOf", x::beltsOf, 1, -1);
        // As many, one of them without a bout: who had the blue belt in the latest one has red.
        BeltRounds y = Check.taught(THREE);
        y.turnIn(2);
        y.pairRound();
        bout(y, 0, 1, 0);
        y.tell(0, 1);
        y.pairRound();
        bout(y, 0, 0, 1);
        y.tell(0, 0);
        // b has 1 point and had blue; c has none and had no bout.
        y.turnIn(2);
        y.turnIn(0);
        y.pairRound();
        bout(y, 0, 1, 2);
        // The one ahead has red, if neither had blue; c was out, a had red in the latest bout.
        BeltRounds z = Check.taught(THREE);
        z.turnIn(2);
        z.pairRound();
        z.tell(0, 1);
        z.pairRound();
        bout(z, 0, 0, 1);
        z.tell(0, 1);
        z.turnIn(2);
        z.turnIn(1);
        z.pairRound();
        bout(z, 0, 0, 2);
        // One who rests beside them changes nothing; RoundsEdges has a rest of one of the two.
        BeltRounds r = Check.taught(THREE + "points 2 1 0;");
        r.turnIn(0);
        r.pairRound();
        bout(r, 0, 1, 2);
        r.tell(0, 1);
        r.pairRound();
        bout(r, 0, 2, 1);
        r.tell(0, 0);
        // c 3, b 1, a 0; a rests, c has red (0) and blue behind (b, -1 + 1): b had blue, so b has red.
        r.turnIn(0);
        r.pairRound();
        Check.same("restingOne()", r.restingOne(), 0);
        bout(r, 0, 1, 2);
    }

    private static void promise20Floats() {
        BeltRounds x = Check.taught(TWO + "points 9 4 0;");
        x.pairRound();
        each("floatsOf", x::floatsOf, 0, 0);
        x.tell(0, 0);
        each("floatsOf", x::floatsOf, 0, 0);
        x.pairRound();
        each("floatsOf", x::floatsOf, 1, 0);
        x.tell(0, 0);
        // Both have 9.
        each("pointsOf", x::pointsOf, 9, 9);
        x.pairRound();
        each("floatsOf", x::floatsOf, 1, 0);
        x.tell(0, 2);
        x.pairRound();
        each("floatsOf", x::floatsOf, 1, 1);
        // A rest is no float.
        BeltRounds y = Check.taught(THREE + "points 1 0 9;");
        y.pairRound();
        y.tell(0, 1);
        y.pairRound();
        each("floatsOf", y::floatsOf, 1, 0, 0);
    }

    private static void promises22And24() {
        // By points; by points of those met; by strength; by number.
        BeltRounds x = Check.taught("wrestler a strength 1; wrestler b strength 2; wrestler c strength 2;"
                + "wrestler d strength 2; wrestler e strength 3;");
        each("wrestlerAt", x::wrestlerAt, 4, 1, 2, 3, 0);
        each("rankOf", x::rankOf, 4, 1, 2, 3, 0);
        x.pairRound();
        bout(x, 0, 4, 1);
        bout(x, 1, 2, 3);
        x.tell(0, 1);
        x.tell(1, 2);
        // a 2 (0 met), b 1 (1), c 0 (2), d 2 (0), e 1 (1).
        each("wrestlerAt", x::wrestlerAt, 3, 0, 4, 1, 2);
        x.turnIn(0);
        x.turnIn(3);
        each("wrestlerAt, those who are out as well", x::wrestlerAt, 3, 0, 4, 1, 2);
        each("rankOf", x::rankOf, 1, 3, 4, 0, 2);
        // The points of those met go ahead of strength.
        BeltRounds y = Check.taught(FOUR);
        y.pairRound();
        y.tell(0, 1);
        y.tell(1, 0);
        // ann 2, bor 1 (1), cei 1 (1), dun 0 (2).
        each("wrestlerAt", y::wrestlerAt, 0, 1, 2, 3);
        y.pairRound();
        bout(y, 0, 0, 1);
        bout(y, 1, 2, 3);
        y.tell(0, 0);
        y.tell(1, 2);
        // ann 4, bor 1 (cei 1 + ann 4), cei 1 (bor 1 + dun 2), dun 2.
        each("wrestlerAt", y::wrestlerAt, 0, 3, 1, 2);
        y.turnIn(1);
        y.turnIn(0);
        y.pairRound();
        bout(y, 0, 3, 2);
        // dun met ann 4 and cei twice; now cei has met bor 1 and dun 2 twice: 5, as many as bor.
        each("pointsOfMet", y::pointsOfMet, 3, 5, 5, 6);
        each("wrestlerAt", y::wrestlerAt, 0, 3, 1, 2);
        y.tell(0, 0);
        each("pointsOfMet", y::pointsOfMet, 5, 5, 9, 6);
        each("wrestlerAt, cei met more than the stronger bor", y::wrestlerAt, 3, 0, 2, 1);
    }

    private static void promise23And35() {
        BeltRounds x = Check.taught(FOUR);
        Check.same("isIn(0)", x.isIn(0), true);
        x.pairRound();
        Check.same("turnIn(0)", x.turnIn(0), false);
        Check.same("isIn(0)", x.isIn(0), false);
        Check.same("isIn(1)", x.isIn(1), true);
        Check.same("opponentOf(0), still of this round", x.opponentOf(0), 3);
        Check.same("tell()", x.tell(1, 0), 1);
        Check.same("pointsOf(0)", x.pointsOf(0), 2);
        x.tell(0, 0);
        Check.same("pairRound()", x.pairRound(), 1);
        Check.noState("opponentOf(0)", () -> x.opponentOf(0));
        Check.same("restingOne()", x.restingOne(), 3);
        x.tellByRules();
        Check.same("turnIn(0)", x.turnIn(0), true);
        Check.same("isIn(0)", x.isIn(0), true);
        Check.same("pairRound()", x.pairRound(), 2);
        Check.same("turnIn(3)", x.turnIn(3), false);
        Check.same("turnIn(3)", x.turnIn(3), true);
    }

    private static void promise28Outcome() {
        BeltRounds x = Check.taught("wrestler a strength 6; wrestler b strength 5; wrestler c strength 4;"
                + "wrestler d strength 3; wrestler e strength 2; wrestler f strength 1;");
        Check.same("pairRound()", x.pairRound(), 3);
        Check.noState("outcomeOf(1)", () -> x.outcomeOf(1));
        x.tell(1, 2);
        Check.same("outcomeOf(1)", x.outcomeOf(1), 2);
        Check.noState("outcomeOf(0)", () -> x.outcomeOf(0));
        x.tell(0, 0);
        x.tell(2, 1);
        each("outcomeOf", x::outcomeOf, 0, 2, 1);
        x.pairRound();
        Check.noState("outcomeOf(0)", () -> x.outcomeOf(0));
    }

    private static void promise29Ruled() {
        // The first rule whose test holds; one without a test always does; none, a draw.
        BeltRounds x = Check.taught(FOUR + "rule blue wins when strength red = 50; rule draw when strength red = 50;");
        x.pairRound();
        long before = x.digest();
        Check.same("ruledOutcome(0)", x.ruledOutcome(0), 1);
        Check.same("ruledOutcome(1)", x.ruledOutcome(1), 2);
        Check.same("digest()", x.digest(), before);
        x.tell(1, 0);
        Check.same("ruledOutcome(1), of a told one", x.ruledOutcome(1), 2);
        BeltRounds y = Check.taught(FOUR + "rule red wins; rule blue wins;");
        y.pairRound();
        Check.same("ruledOutcome(0)", y.ruledOutcome(0), 0);
        BeltRounds z = Check.taught(FOUR);
        z.pairRound();
        Check.same("ruledOutcome(0)", z.ruledOutcome(0), 1);
    }

    private static void promise30And31() {
        BeltRounds x = Check.taught(THREE);
        Check.noState("opponentOf(0)", () -> x.opponentOf(0));
        Check.noState("restingOne()", () -> x.restingOne());
        x.pairRound();
        Check.same("opponentOf(1)", x.opponentOf(1), 2);
        Check.same("opponentOf(2)", x.opponentOf(2), 1);
        Check.noState("opponentOf(0), who rests", () -> x.opponentOf(0));
        Check.same("restingOne()", x.restingOne(), 0);
        x.tellByRules();
        Check.same("opponentOf(1)", x.opponentOf(1), 2);
        Check.same("restingOne()", x.restingOne(), 0);
        x.turnIn(0);
        Check.same("restingOne(), also who is out since", x.restingOne(), 0);
        x.pairRound();
        Check.noState("restingOne()", () -> x.restingOne());
    }

    private static void promise32PairRound() {
        BeltRounds none = new BeltRounds();
        Check.noState("pairRound() without wrestlers", none::pairRound);
        BeltRounds one = Check.taught("wrestler a strength 1;");
        Check.noState("pairRound() with one", one::pairRound);
        BeltRounds x = Check.taught(THREE + "wrestler d strength 1; wrestler e strength 1;");
        Check.same("pairRound()", x.pairRound(), 2);
        Check.noState("pairRound() of an open round", x::pairRound);
        x.tell(1, 0);
        Check.noState("pairRound() of an open round", x::pairRound);
        x.tell(0, 0);
        x.turnIn(0);
        x.turnIn(1);
        x.turnIn(2);
        Check.same("pairRound() of two", x.pairRound(), 1);
        x.tell(0, 0);
        x.turnIn(3);
        Check.noState("pairRound() of one", x::pairRound);
        x.turnIn(3);
        for (int round = 3; round <= 20; round++) {
            Check.same("pairRound()", x.pairRound(), 1);
            Check.same("rounds()", x.rounds(), round);
            x.tellByRules();
        }
        Check.noState("pairRound() of the 21st round", x::pairRound);
        Check.noState("nextRematches()", x::nextRematches);
        Check.noState("nextOpponentOf(3)", () -> x.nextOpponentOf(3));
        Check.same("rounds()", x.rounds(), 20);
    }

    /** Six of falling strength; all outcomes are draws, so the order stays as it is. */
    private static void pairing() {
        BeltRounds x = Check.taught("wrestler a strength 6; wrestler b strength 5; wrestler c strength 4;"
                + "wrestler d strength 3; wrestler e strength 2; wrestler f strength 1;");
        // In the second round b cannot meet d, the farthest ahead: e and f have met.
        rivals(x, 1, 0, 3, 2, 5, 4);
        rivals(x, 2, 4, 0, 5, 1, 3);
        rivals(x, 3, 5, 4, 0, 2, 1);
        rivals(x, 4, 3, 5, 1, 0, 2);
        rivals(x, 5, 2, 1, 4, 3, 0);
        Check.same("nextRematches()", x.nextRematches(), 3);
        rivals(x, 1, 0, 3, 2, 5, 4);
        // c, d, e and f go out; a and b have met, and meet again.
        for (int w = 2; w < 6; w++) {
            x.turnIn(w);
        }
        Check.same("nextRematches()", x.nextRematches(), 1);
        rivals(x, 1, 0);
        // Those who have met only elsewhere, and one who rests in the midst of the line.
        BeltRounds y = Check.taught(FOUR);
        y.turnIn(1);
        y.turnIn(0);
        rivals(y, -1, -1, 3, 2);
        y.turnIn(1);
        y.turnIn(0);
        // bor 0, ann 0, cei 1, dun 1; cei and dun have met: cei meets bor, the farthest ahead.
        Check.same("nextRematches()", y.nextRematches(), 0);
        Check.same("nextOpponentOf(2)", y.nextOpponentOf(2), 1);
        Check.same("nextOpponentOf(3)", y.nextOpponentOf(3), 0);
        BeltRounds z = Check.taught("wrestler a strength 7; wrestler b strength 6; wrestler c strength 5;"
                + "wrestler d strength 4; wrestler e strength 3; points 0 0 0;");
        rivals(z, 1, 0, 3, 2, -1);
        rivals(z, 2, 4, 0, -1, 1);
        rivals(z, 4, 3, -1, 1, 0);
        rivals(z, 3, -1, 4, 0, 2);
        rivals(z, -1, 2, 1, 4, 3);
    }

    private static void rivals(BeltRounds x, int... due) {
        x.pairRound();
        for (int w = 0; w < due.length; w++) {
            int wrestler = w;
            if (due[w] >= 0) {
                Check.same("opponentOf(" + w + ") in round " + x.rounds(), x.opponentOf(w), due[w]);
            } else {
                Check.noState("opponentOf(" + w + ")", () -> x.opponentOf(wrestler));
            }
        }
        for (int bout = 0; bout < x.bouts(); bout++) {
            x.tell(bout, 1);
        }
    }

    private static void promise33Tell() {
        BeltRounds x = Check.taught(FOUR + "points 5 2 0;");
        x.pairRound();
        Check.noArgument("tell(0, -1)", () -> x.tell(0, -1));
        Check.noArgument("tell(0, 3)", () -> x.tell(0, 3));
        Check.noArgument("tell(0, least)", () -> x.tell(0, LEAST));
        Check.noIndex("tell(2, 3)", () -> x.tell(2, 3));
        Check.same("tell(1, 0)", x.tell(1, 0), 1);
        Check.noState("tell(1, 2)", () -> x.tell(1, 2));
        Check.noArgument("tell(1, 3)", () -> x.tell(1, 3));
        each("pointsOf", x::pointsOf, 5, 0, 0, 0);
        Check.same("tell(0, 2)", x.tell(0, 2), 0);
        each("pointsOf", x::pointsOf, 5, 0, 5, 0);
        each("winsOf", x::winsOf, 1, 0, 1, 0);
        each("lossesOf", x::lossesOf, 0, 1, 0, 1);
        Check.noState("tell(0, 0)", () -> x.tell(0, 0));
        // ann 5 and cei 5 have red 1 and -1.
        x.pairRound();
        bout(x, 0, 2, 0);
        Check.same("tell(0, 1)", x.tell(0, 1), 1);
        each("pointsOf", x::pointsOf, 7, 0, 7, 0);
        each("drawsOf", x::drawsOf, 1, 0, 1, 0);
    }

    private static void promise34ByRules() {
        BeltRounds x = Check.taught(FOUR + "rule red wins when strength red >= 50;");
        Check.noState("tellByRules() without a round", x::tellByRules);
        x.pairRound();
        Check.same("tellByRules()", x.tellByRules(), 2);
        each("outcomeOf", x::outcomeOf, 0, 0);
        Check.noState("tellByRules() of a closed round", x::tellByRules);
        x.pairRound();
        bout(x, 0, 1, 0);
        bout(x, 1, 2, 3);
        x.tell(0, 0);
        Check.same("tellByRules(), among the open ones", x.tellByRules(), 1);
        each("pointsOf", x::pointsOf, 2, 4, 2, 0);
        BeltRounds y = Check.taught(FOUR + "rule blue wins;");
        y.pairRound();
        y.tell(1, 0);
        Check.same("tellByRules()", y.tellByRules(), 0);
        each("outcomeOf, a told one stays", y::outcomeOf, 2, 0);
    }

    private static void promise36And37() {
        BeltRounds x = Check.taught(THREE);
        long before = x.digest();
        Check.same("nextOpponentOf(1)", x.nextOpponentOf(1), 2);
        Check.same("nextOpponentOf(2)", x.nextOpponentOf(2), 1);
        Check.noState("nextOpponentOf(0), who would rest", () -> x.nextOpponentOf(0));
        Check.same("nextRematches()", x.nextRematches(), 0);
        Check.same("digest()", x.digest(), before);
        x.pairRound();
        Check.noState("nextOpponentOf(1) of an open round", () -> x.nextOpponentOf(1));
        Check.noState("nextRematches() of an open round", x::nextRematches);
        x.tellByRules();
        x.turnIn(0);
        Check.noState("nextOpponentOf(0), who is out", () -> x.nextOpponentOf(0));
        Check.same("nextOpponentOf(2)", x.nextOpponentOf(2), 1);
        Check.same("nextRematches()", x.nextRematches(), 1);
        x.turnIn(1);
        Check.noState("nextOpponentOf(2), alone", () -> x.nextOpponentOf(2));
        Check.noState("nextRematches(), alone", x::nextRematches);
        Check.noState("nextRematches(), nobody", () -> new BeltRounds().nextRematches());
    }

    private static void promise38And39() {
        BeltRounds none = new BeltRounds();
        Check.noArgument("leaderAfter(0)", () -> none.leaderAfter(0));
        Check.noState("leaderAfter(1)", () -> none.leaderAfter(1));
        Check.noState("leaderAfter(10)", () -> none.leaderAfter(10));
        // The weaker one wins each bout.
        BeltRounds x = Check.taught(TWO.replaceFirst("9", "8")
                + "rule red wins when strength red < strength blue; rule blue wins; points 3 1 2;");
        Check.noArgument("leaderAfter(11)", () -> x.leaderAfter(11));
        Check.noArgument("leaderAfter(-1)", () -> x.leaderAfter(-1));
        Check.noArgument("pointsAfter(0, 0)", () -> x.pointsAfter(0, 0));
        Check.noArgument("pointsAfter(0, 11)", () -> x.pointsAfter(0, 11));
        Check.noIndex("pointsAfter(2, 11)", () -> x.pointsAfter(2, 11));
        long before = x.digest();
        Check.same("leaderAfter(1)", x.leaderAfter(1), 0);
        Check.same("pointsAfter(0, 1)", x.pointsAfter(0, 1), 3);
        Check.same("pointsAfter(0, 10)", x.pointsAfter(0, 10), 30);
        Check.same("pointsAfter(1, 10)", x.pointsAfter(1, 10), 0);
        Check.same("digest()", x.digest(), before);
        // The open bout is told first, and is none of the rounds.
        x.pairRound();
        long open = x.digest();
        Check.same("pointsAfter(0, 1)", x.pointsAfter(0, 1), 6);
        Check.same("leaderAfter(1)", x.leaderAfter(1), 0);
        Check.same("digest()", x.digest(), open);
        Check.same("openBouts()", x.openBouts(), 1);
        x.tell(0, x.redOf(0) == 1 ? 0 : 2);
        Check.same("pointsAfter(0, 1)", x.pointsAfter(0, 1), 3);
        Check.same("pointsAfter(1, 1)", x.pointsAfter(1, 1), 3);
        Check.same("leaderAfter(1), the stronger one of as many", x.leaderAfter(1), 1);
        Check.same("leaderAfter(2)", x.leaderAfter(2), 0);
        // Only 20 rounds can be paired.
        for (int round = 2; round <= 17; round++) {
            x.pairRound();
            x.tellByRules();
        }
        Check.same("pointsAfter(0, 2)", x.pointsAfter(0, 2), 48 + 6);
        Check.same("pointsAfter(0, 3)", x.pointsAfter(0, 3), 48 + 9);
        Check.same("pointsAfter(0, 10)", x.pointsAfter(0, 10), 48 + 9);
        // Who is out is not paired, but may stand first; with one who is in none is paired.
        x.turnIn(0);
        Check.same("leaderAfter(10)", x.leaderAfter(10), 0);
        Check.same("pointsAfter(0, 10)", x.pointsAfter(0, 10), 48);
        BeltRounds y = Check.taught(THREE + "points 1 1 9;");
        Check.same("pointsAfter(0, 1), a rest", y.pointsAfter(0, 1), 9);
        Check.same("leaderAfter(1)", y.leaderAfter(1), 0);
        Check.same("restsOf(0)", y.restsOf(0), 0);
        BeltRounds alone = Check.taught("wrestler a strength 1;");
        Check.same("leaderAfter(3)", alone.leaderAfter(3), 0);
        Check.same("pointsAfter(0, 3)", alone.pointsAfter(0, 3), 0);
        // The open bout is told also if no round can be paired.
        BeltRounds z = Check.taught(TWO + "rule red wins;");
        z.pairRound();
        z.turnIn(0);
        Check.same("pointsAfter(0, 10)", z.pointsAfter(0, 10), 2);
        sameAsPlayed();
    }

    /** What would be is what is, when it is played. */
    private static void sameAsPlayed() {
        String text = FOUR + "wrestler ebb strength 64; points 3 1 2; rule draw when met and not [round > 3];"
                + "rule red wins when strength red > strength blue + 10 or floats red > floats blue;"
                + "rule blue wins when points blue >= points red and belts blue < 0; rule red wins;";
        for (int more = 1; more <= 10; more++) {
            BeltRounds x = Check.taught(text);
            x.pairRound();
            int leader = x.leaderAfter(more);
            int[] points = new int[5];
            for (int w = 0; w < 5; w++) {
                points[w] = x.pointsAfter(w, more);
            }
            x.tellByRules();
            for (int i = 0; i < more; i++) {
                x.pairRound();
                x.tellByRules();
            }
            Check.same("leaderAfter", leader, x.wrestlerAt(0));
            each("pointsAfter", x::pointsOf, points);
        }
    }

    private static void promise40Mean() {
        Check.same("meanPoints()", new BeltRounds().meanPoints(), 0.0);
        BeltRounds x = Check.taught(THREE + "points 5 1 2;");
        Check.same("meanPoints()", x.meanPoints(), 0.0);
        x.pairRound();
        Check.same("meanPoints()", x.meanPoints(), 2.0 / 3);
        x.tell(0, 0);
        Check.same("meanPoints()", x.meanPoints(), 7.0 / 3);
        x.turnIn(0);
        Check.same("meanPoints(), of those who are out as well", x.meanPoints(), 7.0 / 3);
    }

    private static long dueDigest(BeltRounds x, int... outcomes) {
        long d = 967;
        int[] first = {x.wrestlers(), x.wrestlersIn(), x.rules(), x.rounds(), x.tapeBytes(), x.bouts(), x.openBouts()};
        for (int number : first) {
            d = d * 31 + number;
        }
        for (int w = 0; w < x.wrestlers(); w++) {
            int[] of = {x.strengthOf(w), x.pointsOf(w), x.winsOf(w), x.drawsOf(w), x.lossesOf(w), x.restsOf(w),
                x.beltsOf(w), x.floatsOf(w), x.pointsOfMet(w), x.rankOf(w), x.isIn(w) ? 1 : 0};
            for (int number : of) {
                d = d * 31 + number;
            }
            for (int other = 0; other < x.wrestlers(); other++) {
                d = d * 31 + x.timesMet(w, other);
            }
        }
        for (int bout = 0; bout < x.bouts(); bout++) {
            d = ((d * 31 + x.redOf(bout)) * 31 + x.blueOf(bout)) * 31 + outcomes[bout];
        }
        return d;
    }

    private static void promise41Digest() {
        BeltRounds x = new BeltRounds();
        // 967 * 31 to the 7th.
        Check.same("digest() of a new object", x.digest(), 967L * 27512614111L);
        x.feed(0, 0, 0, 0, 0);
        Check.same("digest(), tapeBytes()", x.digest(), 967L * 27512614111L + 20 * 31 * 31);
        x.trim(0);
        Check.teach(x, FOUR + "wrestler ebb strength 3; rule draw; rule red wins;");
        Check.same("digest()", x.digest(), dueDigest(x));
        x.turnIn(2);
        x.turnIn(4);
        Check.same("digest()", x.digest(), dueDigest(x));
        promise41Bouts();
    }

    /** On another object: one is used for at most 512 calls. */
    private static void promise41Bouts() {
        BeltRounds x = Check.taught(FOUR + "wrestler ebb strength 3; rule draw; rule red wins;");
        x.turnIn(2);
        x.pairRound();
        Check.same("digest()", x.digest(), dueDigest(x, -1, -1));
        x.tell(1, 2);
        Check.same("digest()", x.digest(), dueDigest(x, -1, 2));
        x.tell(0, 0);
        x.pairRound();
        x.tell(0, 1);
        x.feed(1, 2, 3, 4, 5);
        Check.same("digest()", x.digest(), dueDigest(x, 1, -1));
    }

    private static void throwingChangesNothing() {
        BeltRounds x = Check.taught(FOUR);
        x.feed(1, 2, 3, 4, 5);
        x.pairRound();
        x.tell(0, 0);
        long before = x.digest();
        Check.noState("pairRound()", x::pairRound);
        Check.noState("tell(0, 1)", () -> x.tell(0, 1));
        Check.noIndex("tell(2, 1)", () -> x.tell(2, 1));
        Check.noArgument("tell(1, 3)", () -> x.tell(1, 3));
        Check.noIndex("turnIn(4)", () -> x.turnIn(4));
        Check.noArgument("trim(21)", () -> x.trim(21));
        Check.noArgument("leaderAfter(0)", () -> x.leaderAfter(0));
        Check.noState("nextRematches()", x::nextRematches);
        Check.same("digest()", x.digest(), before);
    }
}
