/** Long runs of calls, each answer compared with that of Model, which is made another way. */
public final class ModelTest {
    private static final int OBJECTS = 1000;
    private static final int MOST_CALLS = 512;

    private long seed = 20261119;
    private BeltRounds x;
    private Model m;
    private int calls;
    private String trail = "";

    public static void main(String[] args) {
        new ModelTest().run();
        Check.end("ModelTest");
    }

    /** The same numbers in every run. */
    private int below(int n) {
        seed = seed * 6364136223846793005L + 1442695040888963407L;
        return (int) ((seed >>> 33) % n);
    }

    private boolean oneIn(int n) {
        return below(n) == 0;
    }

    private void run() {
        for (int i = 0; i < OBJECTS; i++) {
            x = new BeltRounds();
            m = new Model();
            calls = 0;
            int size = i % 4 == 0 ? 12 : below(13);
            boolean once = oneIn(3);
            teach(text(size));
            while (calls < MOST_CALLS - 120) {
                if (!once) {
                    teach(oneIn(3) ? text(size) : brokenText(size));
                }
                int more = 20 + below(150);
                for (int k = 0; k < more && calls < MOST_CALLS - 120; k++) {
                    call();
                }
            }
        }
    }

    private void same(String what, Check.Call program, Check.Call model) {
        calls++;
        Object due = Check.answerOf(model);
        Check.same(what + " behind " + trail, Check.answerOf(program), due);
    }

    // ---- texts

    private void teach(String whole) {
        // What change() fed is still there, at times.
        if (!oneIn(20)) {
            same("trim", () -> x.trim(0), () -> m.trim(0));
        }
        String text = whole.substring(0, Math.min(whole.length(), 1900));
        trail = text;
        for (int i = 0; i < text.length(); i += 20) {
            int[] f = new int[5];
            for (int k = 0; k < 20; k++) {
                int c = i + k < text.length() ? text.charAt(i + k) : ' ';
                f[k / 4] = f[k / 4] << 8 | c & 255;
            }
            same("feed", () -> x.feed(f[0], f[1], f[2], f[3], f[4]), () -> m.feed(f));
        }
        int kept = oneIn(200) ? below(2000) : m.tapeBytes() - (20 - text.length() % 20) % 20;
        same("trim", () -> x.trim(kept), () -> m.trim(kept));
        same("teach", () -> x.teach(), () -> m.teach());
        same("errorAt", () -> x.errorAt(), () -> m.errorAt());
    }

    private String text(int size) {
        StringBuilder text = new StringBuilder();
        int alike = 1 + below(6);
        int wrestlers = oneIn(30) ? size + 1 : size;
        for (int i = 0; i < wrestlers; i++) {
            text.append("wrestler w").append(oneIn(100) ? 0 : i).append(" strength ");
            text.append(oneIn(100) ? below(1100) : 1 + below(3 * alike)).append(oneIn(9) ? "\n; " : ";");
        }
        if (!oneIn(3)) {
            text.append(oneIn(9) ? "points 0 0 0;" : "points ");
            text.append(text.charAt(text.length() - 1) == ';' ? "points " : "");
            text.append(below(10)).append(' ').append(below(4)).append(' ').append(below(oneIn(20) ? 12 : 5));
            text.append(';');
        }
        int rules = oneIn(20) ? 14 + below(6) : below(5);
        for (int i = 0; i < rules; i++) {
            text.append("rule ").append(oneOf("red wins", "blue wins", "draw"));
            if (!oneIn(6)) {
                text.append(" when ").append(test(rules > 6 ? 1 : 1 + below(9)));
            }
            text.append(';');
        }
        return text.toString();
    }

    private String brokenText(int size) {
        StringBuilder text = new StringBuilder(text(size));
        int changes = 1 + below(2);
        for (int i = 0; i < changes && text.length() > 0; i++) {
            int at = below(text.length());
            String put = oneOf(" ", ";", "(", ")", "[", "]", "-", "not ", "7", "a", " red ", " met ", "min", "=", "<",
                    ",", "?", "\t", "\u00e9", "\u0000", "and ", " or ", " 1234567 ", " strength ", "Z", "rest", "max(");
            if (oneIn(3)) {
                text.deleteCharAt(at);
            } else if (oneIn(2)) {
                text.insert(at, put);
            } else {
                text.replace(at, Math.min(text.length(), at + 1 + below(4)), put);
            }
        }
        if (oneIn(12)) {
            text.setLength(below(text.length() + 1));
        }
        if (oneIn(8)) {
            text.append("rule draw when 1").append("+1".repeat(below(220))).append("=2;");
        }
        return text.toString();
    }

    private String oneOf(String... texts) {
        return texts[below(texts.length)];
    }

    private String test(int size) {
        if (size <= 1) {
            return oneIn(5) ? "met" : sum(below(3)) + oneOf("<", ">", "=", "<=", ">=", " = ") + sum(below(3));
        }
        switch (below(5)) {
            case 0:
                return "not " + test(size - 1);
            case 1:
                return "[" + test(size - 1) + "]";
            case 2:
                return test(size / 2) + " and " + test(size / 2);
            case 3:
                return test(size / 2) + " or " + test(size / 2);
            default:
                return sum(size) + oneOf("<", ">", "=", "<=", ">=", " = ") + sum(size / 2);
        }
    }

    private String sum(int size) {
        if (size <= 0) {
            return oneIn(5) ? String.valueOf(below(oneIn(4) ? 1000000 : 5)) : oneIn(5) ? "round"
                    : oneOf("strength", "won", "belts", "floats", "rest", "points") + oneOf(" red", " blue");
        }
        switch (below(7)) {
            case 0:
                return "-" + sum(size - 1);
            case 1:
                return "(" + sum(size - 1) + ")";
            case 2:
                return oneOf("min", "max ") + "(" + sum(size / 2) + "," + sum(size / 2) + ")";
            case 3:
                return sum(size / 2) + "*" + sum(size / 2);
            case 4:
                return sum(size / 2) + "/" + sum(size / 2);
            case 5:
                return sum(size / 2) + " - " + sum(size / 2);
            default:
                return sum(size / 2) + "+" + sum(size / 2);
        }
    }

    // ---- calls

    private int wrestler() {
        int n = m.wrestlers();
        return n == 0 || oneIn(40) ? below(16) - 2 : below(n);
    }

    private int bout() {
        int n = m.bouts();
        return n == 0 || oneIn(40) ? below(9) - 1 : below(n);
    }

    private void call() {
        switch (below(14)) {
            case 0: case 1: case 2:
                same("pairRound", () -> x.pairRound(), () -> m.pairRound());
                break;
            case 3:
                same("tellByRules", () -> x.tellByRules(), () -> m.tellByRules());
                break;
            case 11:
                same("pairRound", () -> x.pairRound(), () -> m.pairRound());
                same("tellByRules", () -> x.tellByRules(), () -> m.tellByRules());
                break;
            case 4: case 5: case 6: {
                int bout = bout();
                int outcome = oneIn(30) ? below(7) - 3 : below(3);
                same("tell", () -> x.tell(bout, outcome), () -> m.tell(bout, outcome));
                break;
            }
            case 7:
                change();
                break;
            case 8:
                askNext();
                break;
            case 9:
                same("digest", () -> x.digest(), () -> m.digest());
                break;
            case 10:
                askBout();
                break;
            default:
                askWrestler();
        }
    }

    private void change() {
        if (oneIn(3)) {
            int w = wrestler();
            same("turnIn", () -> x.turnIn(w), () -> m.turnIn(w));
        } else if (oneIn(3)) {
            int n = below(30) - 2;
            same("trim", () -> x.trim(n), () -> m.trim(n));
        } else if (oneIn(3)) {
            int[] f = {below(99), -below(99), 0x20202020, 0x0a202020, 0x20203b20};
            same("feed", () -> x.feed(f[0], f[1], f[2], f[3], f[4]), () -> m.feed(f));
        } else if (oneIn(15)) {
            same("teach", () -> x.teach(), () -> m.teach());
        }
        same("tapeBytes", () -> x.tapeBytes(), () -> m.tapeBytes());
    }

    private void askNext() {
        int w = wrestler();
        int more = oneIn(15) ? below(14) - 1 : 1 + below(10);
        switch (below(6)) {
            case 0: case 1:
                same("nextOpponentOf", () -> x.nextOpponentOf(w), () -> m.nextOpponentOf(w));
                break;
            case 2: case 3:
                same("nextRematches", () -> x.nextRematches(), () -> m.nextRematches());
                break;
            case 4:
                // The model tries all ways to pair, of which twelve have many.
                if (m.wrestlers() <= 10 || oneIn(4)) {
                    same("leaderAfter", () -> x.leaderAfter(more), () -> m.leaderAfter(more));
                }
                break;
            default:
                if (m.wrestlers() <= 10 || oneIn(4)) {
                    same("pointsAfter", () -> x.pointsAfter(w, more), () -> m.pointsAfter(w, more));
                }
        }
    }

    private void askBout() {
        int bout = bout();
        int w = wrestler();
        switch (below(9)) {
            case 0:
                same("redOf", () -> x.redOf(bout), () -> m.redOf(bout));
                break;
            case 1:
                same("blueOf", () -> x.blueOf(bout), () -> m.blueOf(bout));
                break;
            case 2:
                same("outcomeOf", () -> x.outcomeOf(bout), () -> m.outcomeOf(bout));
                break;
            case 3:
                same("opponentOf", () -> x.opponentOf(w), () -> m.opponentOf(w));
                break;
            case 4:
                same("restingOne", () -> x.restingOne(), () -> m.restingOne());
                break;
            case 5:
                same("openBouts", () -> x.openBouts(), () -> m.openBouts());
                same("bouts", () -> x.bouts(), () -> m.bouts());
                same("rounds", () -> x.rounds(), () -> m.rounds());
                break;
            default:
                same("ruledOutcome", () -> x.ruledOutcome(bout), () -> m.ruledOutcome(bout));
        }
    }

    private void askWrestler() {
        int w = wrestler();
        int other = wrestler();
        same("strengthOf", () -> x.strengthOf(w), () -> m.strengthOf(w));
        same("pointsOf", () -> x.pointsOf(w), () -> m.pointsOf(w));
        same("winsOf", () -> x.winsOf(w), () -> m.winsOf(w));
        same("drawsOf", () -> x.drawsOf(w), () -> m.drawsOf(w));
        same("lossesOf", () -> x.lossesOf(w), () -> m.lossesOf(w));
        same("restsOf", () -> x.restsOf(w), () -> m.restsOf(w));
        same("beltsOf", () -> x.beltsOf(w), () -> m.beltsOf(w));
        same("floatsOf", () -> x.floatsOf(w), () -> m.floatsOf(w));
        same("pointsOfMet", () -> x.pointsOfMet(w), () -> m.pointsOfMet(w));
        same("rankOf", () -> x.rankOf(w), () -> m.rankOf(w));
        same("isIn", () -> x.isIn(w), () -> m.isIn(w));
        same("wrestlerAt", () -> x.wrestlerAt(w), () -> m.wrestlerAt(w));
        same("timesMet", () -> x.timesMet(w, other), () -> m.timesMet(w, other));
        same("wrestlersIn", () -> x.wrestlersIn(), () -> m.wrestlersIn());
        same("rules", () -> x.rules(), () -> m.rules());
        same("meanPoints", () -> x.meanPoints(), () -> m.meanPoints());
    }
}
