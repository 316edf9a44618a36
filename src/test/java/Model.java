import java.util.ArrayList;
import java.util.Comparator;
import java.util.List;

/** What the document says, told another way: all is reckoned from the history of the rounds. */
final class Model {
    static final class Bout {
        int red;
        int blue;
        int outcome = -1;
    }

    static final class Round {
        final List<Bout> bouts = new ArrayList<>();
        int resting = -1;
        /** How often each one had floated and what each one had, with this round. */
        int[] floated;
    }

    private final StringBuilder tape = new StringBuilder();
    private ModelText text = new ModelText("");
    private int errorAt = -1;
    private List<Round> rounds = new ArrayList<>();
    private boolean[] out = new boolean[0];

    int feed(int... fours) {
        if (tape.length() + 20 > 2000) {
            throw new IllegalStateException();
        }
        for (int four : fours) {
            for (int shift = 24; shift >= 0; shift -= 8) {
                tape.append((char) (four >>> shift & 255));
            }
        }
        return tape.length();
    }

    int trim(int n) {
        if (n < 0 || n > tape.length()) {
            throw new IllegalArgumentException();
        }
        tape.setLength(n);
        return n;
    }

    int teach() {
        ModelText read = new ModelText(tape.toString());
        tape.setLength(0);
        errorAt = read.errorAt;
        if (read.error == 0) {
            text = read;
            rounds = new ArrayList<>();
            out = new boolean[read.strengths.size()];
        }
        return read.error;
    }

    int errorAt() {
        return errorAt;
    }

    int wrestlers() {
        return text.strengths.size();
    }

    int wrestlersIn() {
        int in = 0;
        for (boolean o : out) {
            in += o ? 0 : 1;
        }
        return in;
    }

    int rules() {
        return text.rules.size();
    }

    int rounds() {
        return rounds.size();
    }

    int tapeBytes() {
        return tape.length();
    }

    private List<Bout> latest() {
        return rounds.isEmpty() ? List.of() : rounds.get(rounds.size() - 1).bouts;
    }

    int bouts() {
        return latest().size();
    }

    int openBouts() {
        return (int) latest().stream().filter(b -> b.outcome < 0).count();
    }

    private void need(int wrestler) {
        if (wrestler < 0 || wrestler >= wrestlers()) {
            throw new IndexOutOfBoundsException();
        }
    }

    private Bout bout(int bout) {
        if (bout < 0 || bout >= bouts()) {
            throw new IndexOutOfBoundsException();
        }
        return latest().get(bout);
    }

    private List<Bout> boutsOf(int wrestler) {
        List<Bout> all = new ArrayList<>();
        for (Round round : rounds) {
            for (Bout b : round.bouts) {
                if (b.red == wrestler || b.blue == wrestler) {
                    all.add(b);
                }
            }
        }
        return all;
    }

    int strengthOf(int w) {
        need(w);
        return text.strengths.get(w);
    }

    int pointsOf(int w) {
        return winsOf(w) * text.worth[0] + drawsOf(w) * text.worth[1] + restsOf(w) * text.worth[2];
    }

    int winsOf(int w) {
        need(w);
        return (int) boutsOf(w).stream().filter(b -> b.outcome == (b.red == w ? 0 : 2)).count();
    }

    int drawsOf(int w) {
        need(w);
        return (int) boutsOf(w).stream().filter(b -> b.outcome == 1).count();
    }

    int lossesOf(int w) {
        need(w);
        return (int) boutsOf(w).stream().filter(b -> b.outcome == (b.red == w ? 2 : 0)).count();
    }

    int restsOf(int w) {
        need(w);
        return (int) rounds.stream().filter(r -> r.resting == w).count();
    }

    int beltsOf(int w) {
        need(w);
        return boutsOf(w).stream().mapToInt(b -> b.red == w ? 1 : -1).sum();
    }

    int floatsOf(int w) {
        need(w);
        return rounds.stream().mapToInt(r -> r.floated[w]).sum();
    }

    int pointsOfMet(int w) {
        need(w);
        return boutsOf(w).stream().mapToInt(b -> pointsOf(b.red == w ? b.blue : b.red)).sum();
    }

    private List<Integer> order() {
        int n = wrestlers();
        int[] points = new int[n];
        int[] met = new int[n];
        List<Integer> all = new ArrayList<>();
        for (int w = 0; w < n; w++) {
            points[w] = pointsOf(w);
            met[w] = pointsOfMet(w);
            all.add(w);
        }
        all.sort(Comparator.<Integer>comparingInt(w -> -points[w]).thenComparingInt(w -> -met[w])
                .thenComparingInt(w -> -text.strengths.get(w)).thenComparingInt(w -> w));
        return all;
    }

    int rankOf(int w) {
        need(w);
        return order().indexOf(w);
    }

    boolean isIn(int w) {
        need(w);
        return !out[w];
    }

    int wrestlerAt(int rank) {
        need(rank);
        return order().get(rank);
    }

    int timesMet(int a, int b) {
        need(a);
        need(b);
        return a == b ? 0 : (int) boutsOf(a).stream().filter(x -> x.red == b || x.blue == b).count();
    }

    int redOf(int bout) {
        return bout(bout).red;
    }

    int blueOf(int bout) {
        return bout(bout).blue;
    }

    int outcomeOf(int bout) {
        if (bout(bout).outcome < 0) {
            throw new IllegalStateException();
        }
        return bout(bout).outcome;
    }

    int ruledOutcome(int bout) {
        Bout b = bout(bout);
        for (ModelText.Rule rule : text.rules) {
            if (rule.test == null || rule.test.of(this, b) != 0) {
                return rule.outcome;
            }
        }
        return 1;
    }

    /** The value of a word of the language for a bout of the latest round. */
    int valueOf(String word, int wrestler) {
        switch (word) {
            case "round":
                return rounds() - 1;
            case "strength":
                return strengthOf(wrestler);
            case "points":
                return pointsOf(wrestler);
            case "won":
                return winsOf(wrestler);
            case "belts":
                return beltsOf(wrestler);
            case "floats":
                return floatsOf(wrestler);
            default:
                return restsOf(wrestler);
        }
    }

    private static int rival(List<Bout> bouts, int w) {
        for (Bout b : bouts) {
            if (b.red == w || b.blue == w) {
                return b.red == w ? b.blue : b.red;
            }
        }
        throw new IllegalStateException();
    }

    int opponentOf(int w) {
        need(w);
        return rival(latest(), w);
    }

    int restingOne() {
        if (rounds.isEmpty() || rounds.get(rounds.size() - 1).resting < 0) {
            throw new IllegalStateException();
        }
        return rounds.get(rounds.size() - 1).resting;
    }

    private boolean canPair() {
        return openBouts() == 0 && rounds() < 20 && wrestlersIn() >= 2;
    }

    /** The best way found: pairs as they stand in the line, and how many of them have met. */
    private int fewest;
    private List<int[]> best;

    private void tryAll(List<Integer> line, List<int[]> pairs, int met) {
        if (line.isEmpty()) {
            // The first of those with as few is tried first.
            if (met < fewest) {
                fewest = met;
                best = new ArrayList<>(pairs);
            }
            return;
        }
        for (int i = 1; i < line.size(); i++) {
            List<Integer> rest = new ArrayList<>(line);
            int second = rest.remove(i);
            int first = rest.remove(0);
            pairs.add(new int[] {first, second});
            tryAll(rest, pairs, met + (metInModel[first][second] ? 1 : 0));
            pairs.remove(pairs.size() - 1);
        }
    }

    private boolean[][] metInModel;

    private Round nextRound() {
        if (!canPair()) {
            throw new IllegalStateException();
        }
        Round round = new Round();
        round.floated = new int[wrestlers()];
        List<Integer> line = order();
        line.removeIf(w -> out[w]);
        if (line.size() % 2 == 1) {
            int least = line.stream().mapToInt(this::restsOf).min().getAsInt();
            for (int w : line) {
                round.resting = restsOf(w) == least ? w : round.resting;
            }
            line.remove(Integer.valueOf(round.resting));
        }
        metInModel = new boolean[wrestlers()][wrestlers()];
        for (int a : line) {
            for (int b : line) {
                metInModel[a][b] = timesMet(a, b) > 0;
            }
        }
        fewest = 99;
        tryAll(line, new ArrayList<>(), 0);
        for (int[] pair : best) {
            round.bouts.add(dealBelts(pair[0], pair[1]));
            if (pointsOf(pair[0]) != pointsOf(pair[1])) {
                round.floated[pointsOf(pair[0]) > pointsOf(pair[1]) ? pair[0] : pair[1]]++;
            }
        }
        return round;
    }

    private boolean hadBlue(int w) {
        List<Bout> all = boutsOf(w);
        return !all.isEmpty() && all.get(all.size() - 1).blue == w;
    }

    private Bout dealBelts(int ahead, int behind) {
        int less = beltsOf(ahead) - beltsOf(behind);
        boolean aheadIsRed = less != 0 ? less < 0 : hadBlue(ahead) == hadBlue(behind) || hadBlue(ahead);
        Bout b = new Bout();
        b.red = aheadIsRed ? ahead : behind;
        b.blue = aheadIsRed ? behind : ahead;
        return b;
    }

    int pairRound() {
        rounds.add(nextRound());
        return bouts();
    }

    int tell(int bout, int outcome) {
        Bout b = bout(bout);
        if (outcome < 0 || outcome > 2) {
            throw new IllegalArgumentException();
        }
        if (b.outcome >= 0) {
            throw new IllegalStateException();
        }
        b.outcome = outcome;
        return openBouts();
    }

    int tellByRules() {
        if (openBouts() == 0) {
            throw new IllegalStateException();
        }
        int red = 0;
        for (int i = 0; i < bouts(); i++) {
            if (bout(i).outcome < 0) {
                bout(i).outcome = ruledOutcome(i);
                red += bout(i).outcome == 0 ? 1 : 0;
            }
        }
        return red;
    }

    boolean turnIn(int w) {
        need(w);
        out[w] = !out[w];
        return !out[w];
    }

    int nextOpponentOf(int w) {
        need(w);
        return rival(nextRound().bouts, w);
    }

    int nextRematches() {
        nextRound();
        return fewest;
    }

    private Model ahead(int more) {
        Model m = new Model();
        m.text = text;
        m.out = out.clone();
        for (Round round : rounds) {
            Round copy = new Round();
            copy.resting = round.resting;
            copy.floated = round.floated;
            for (Bout b : round.bouts) {
                Bout c = new Bout();
                c.red = b.red;
                c.blue = b.blue;
                c.outcome = b.outcome;
                copy.bouts.add(c);
            }
            m.rounds.add(copy);
        }
        if (m.openBouts() > 0) {
            m.tellByRules();
        }
        for (int i = 0; i < more && m.canPair(); i++) {
            m.pairRound();
            m.tellByRules();
        }
        return m;
    }

    int leaderAfter(int more) {
        if (more < 1 || more > 10) {
            throw new IllegalArgumentException();
        }
        if (wrestlers() == 0) {
            throw new IllegalStateException();
        }
        return ahead(more).wrestlerAt(0);
    }

    int pointsAfter(int w, int more) {
        need(w);
        if (more < 1 || more > 10) {
            throw new IllegalArgumentException();
        }
        return ahead(more).pointsOf(w);
    }

    double meanPoints() {
        double sum = 0;
        for (int w = 0; w < wrestlers(); w++) {
            sum += pointsOf(w);
        }
        return wrestlers() == 0 ? 0 : sum / wrestlers();
    }

    long digest() {
        List<Integer> all = new ArrayList<>(List.of(wrestlers(), wrestlersIn(), rules(), rounds(), tapeBytes(),
                bouts(), openBouts()));
        for (int w = 0; w < wrestlers(); w++) {
            all.addAll(List.of(strengthOf(w), pointsOf(w), winsOf(w), drawsOf(w), lossesOf(w), restsOf(w)));
            all.addAll(List.of(beltsOf(w), floatsOf(w), pointsOfMet(w), rankOf(w), isIn(w) ? 1 : 0));
            for (int other = 0; other < wrestlers(); other++) {
                all.add(timesMet(w, other));
            }
        }
        for (Bout b : latest()) {
            all.addAll(List.of(b.red, b.blue, b.outcome));
        }
        long d = 967;
        for (int x : all) {
            d = d * 31 + x;
        }
        return d;
    }
}
