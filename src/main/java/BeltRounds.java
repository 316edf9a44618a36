import java.util.Arrays;

/** A tournament of wrestlers, paired round by round. README.md tells how to use it. */
public final class BeltRounds {
    private static final int MOST_BYTES = 2000;
    private static final int BYTES_A_FEED = 20;
    private static final int MOST_TOKENS = 400;
    private static final int LONGEST_WORD = 10;
    private static final int LONGEST_NUMBER = 6;
    private static final int MOST_DEPTH = 8;
    private static final int MOST_WRESTLERS = 12;
    private static final int MOST_BOUTS = 6;
    private static final int MOST_RULES = 16;
    private static final int MOST_ROUNDS = 20;
    private static final int MOST_ROUNDS_AHEAD = 10;
    private static final int GREATEST_STRENGTH = 999;
    private static final int GREATEST_WORTH = 9;

    private static final int NOT_A_TOURNAMENT = 1;
    private static final int NAME_TWICE = 2;
    private static final int TOO_MANY = 4;
    private static final int NUMBER_OUT_OF_RANGE = 5;

    private static final int RED_WINS = 0;
    private static final int DRAW = 1;
    private static final int BLUE_WINS = 2;
    private static final int NOT_TOLD = -1;
    private static final int NOBODY = -1;

    // What a win, a draw and a rest are worth: their places in a line of points.
    private static final int WIN_WORTH = 0;
    private static final int DRAW_WORTH = 1;
    private static final int REST_WORTH = 2;
    private static final int WORTHS = 3;

    // What is counted of each wrestler; IN and BLUE_LAST are 1 or 0.
    private static final int STRENGTH = 0;
    private static final int POINTS = 1;
    private static final int WON = 2;
    private static final int DRAWN = 3;
    private static final int LOST = 4;
    private static final int RESTS = 5;
    private static final int BELTS = 6;
    private static final int FLOATS = 7;
    private static final int IN = 8;
    private static final int BLUE_LAST = 9;
    private static final int COUNTS = 10;

    private final Reader reader = new Reader();
    private final Tape tape = reader.tape;
    private final Rules rules = new Rules();
    private final Field field = new Field();
    private final Field trial = new Field();
    private final Pairing pairing = new Pairing();

    public BeltRounds() {
    }

    // ---- the language

    public int feed(int a, int b, int c, int d, int e) throws IllegalStateException {
        if (tape.length > MOST_BYTES - BYTES_A_FEED) {
            throw new IllegalStateException("the tape would be too long");
        }
        tape.append(a);
        tape.append(b);
        tape.append(c);
        tape.append(d);
        tape.append(e);
        return tape.length;
    }

    public int trim(int n) throws IllegalArgumentException {
        if (n < 0 || n > tape.length) {
            throw new IllegalArgumentException("the tape has not so many bytes");
        }
        tape.length = n;
        return n;
    }

    public int teach() {
        int error = reader.read();
        tape.length = 0;
        if (error == 0) {
            rules.copyFrom(reader.rules);
            field.begin(reader.wrestlers, reader.strengths, reader.worth);
        }
        return error;
    }

    public int errorAt() {
        return reader.errorAt;
    }

    // ---- the tournament

    public int wrestlers() {
        return field.wrestlers;
    }

    public int wrestlersIn() {
        return field.countIn();
    }

    public int rules() {
        return rules.count;
    }

    public int rounds() {
        return field.rounds;
    }

    public int tapeBytes() {
        return tape.length;
    }

    public int bouts() {
        return field.bouts;
    }

    public int openBouts() {
        return field.countOpen();
    }

    // ---- what wrestlers are

    public int strengthOf(int wrestler) throws IndexOutOfBoundsException {
        needWrestler(wrestler);
        return field.of(STRENGTH, wrestler);
    }

    public int pointsOf(int wrestler) throws IndexOutOfBoundsException {
        needWrestler(wrestler);
        return field.of(POINTS, wrestler);
    }

    public int winsOf(int wrestler) throws IndexOutOfBoundsException {
        needWrestler(wrestler);
        return field.of(WON, wrestler);
    }

    public int drawsOf(int wrestler) throws IndexOutOfBoundsException {
        needWrestler(wrestler);
        return field.of(DRAWN, wrestler);
    }

    public int lossesOf(int wrestler) throws IndexOutOfBoundsException {
        needWrestler(wrestler);
        return field.of(LOST, wrestler);
    }

    public int restsOf(int wrestler) throws IndexOutOfBoundsException {
        needWrestler(wrestler);
        return field.of(RESTS, wrestler);
    }

    public int beltsOf(int wrestler) throws IndexOutOfBoundsException {
        needWrestler(wrestler);
        return field.of(BELTS, wrestler);
    }

    public int floatsOf(int wrestler) throws IndexOutOfBoundsException {
        needWrestler(wrestler);
        return field.of(FLOATS, wrestler);
    }

    public int pointsOfMet(int wrestler) throws IndexOutOfBoundsException {
        needWrestler(wrestler);
        return field.pointsOfRivals(wrestler);
    }

    public int rankOf(int wrestler) throws IndexOutOfBoundsException {
        needWrestler(wrestler);
        field.putInOrder();
        return field.placeOf(wrestler);
    }

    public boolean isIn(int wrestler) throws IndexOutOfBoundsException {
        needWrestler(wrestler);
        return field.of(IN, wrestler) != 0;
    }

    public int wrestlerAt(int rank) throws IndexOutOfBoundsException {
        if (!field.hasWrestler(rank)) {
            throw new IndexOutOfBoundsException("no such rank");
        }
        field.putInOrder();
        return field.atPlace(rank);
    }

    public int timesMet(int a, int b) throws IndexOutOfBoundsException {
        needWrestler(a);
        needWrestler(b);
        return field.meetings(a, b);
    }

    // ---- the latest round

    public int redOf(int bout) throws IndexOutOfBoundsException {
        needBout(bout);
        return field.redIn(bout);
    }

    public int blueOf(int bout) throws IndexOutOfBoundsException {
        needBout(bout);
        return field.blueIn(bout);
    }

    public int outcomeOf(int bout) throws IndexOutOfBoundsException, IllegalStateException {
        needBout(bout);
        int outcome = field.outcomeIn(bout);
        if (outcome == NOT_TOLD) {
            throw new IllegalStateException("the bout has no outcome yet");
        }
        return outcome;
    }

    public int ruledOutcome(int bout) throws IndexOutOfBoundsException {
        needBout(bout);
        return rules.outcomeFor(field, bout);
    }

    public int opponentOf(int wrestler) throws IndexOutOfBoundsException, IllegalStateException {
        needWrestler(wrestler);
        int rival = field.rivalOf(wrestler);
        if (rival == NOBODY) {
            throw new IllegalStateException("this one has no bout in the latest round");
        }
        return rival;
    }

    public int restingOne() throws IllegalStateException {
        if (field.resting == NOBODY) {
            throw new IllegalStateException("nobody rests");
        }
        return field.resting;
    }

    // ---- by hand

    public int pairRound() throws IllegalStateException {
        needPairable();
        pairing.find(field);
        field.startRound(pairing);
        return field.bouts;
    }

    public int tell(int bout, int outcome)
            throws IndexOutOfBoundsException, IllegalArgumentException, IllegalStateException {
        needBout(bout);
        if (outcome < RED_WINS || outcome > BLUE_WINS) {
            throw new IllegalArgumentException("no such outcome");
        }
        if (field.outcomeIn(bout) != NOT_TOLD) {
            throw new IllegalStateException("the bout has an outcome");
        }
        field.tellOutcome(bout, outcome);
        return field.countOpen();
    }

    public int tellByRules() throws IllegalStateException {
        if (field.countOpen() == 0) {
            throw new IllegalStateException("no bout is without an outcome");
        }
        return tellOpenBouts(field);
    }

    public boolean turnIn(int wrestler) throws IndexOutOfBoundsException {
        needWrestler(wrestler);
        field.set(IN, wrestler, 1 - field.of(IN, wrestler));
        return field.of(IN, wrestler) != 0;
    }

    // ---- what would be

    public int nextOpponentOf(int wrestler) throws IndexOutOfBoundsException, IllegalStateException {
        needWrestler(wrestler);
        needPairable();
        pairing.find(field);
        int rival = pairing.rivalOf(wrestler);
        if (rival == NOBODY) {
            throw new IllegalStateException("this one would have no bout in the next round");
        }
        return rival;
    }

    public int nextRematches() throws IllegalStateException {
        needPairable();
        pairing.find(field);
        return pairing.rematches;
    }

    public int leaderAfter(int rounds) throws IllegalArgumentException, IllegalStateException {
        needRoundsAhead(rounds);
        if (field.wrestlers == 0) {
            throw new IllegalStateException("there are no wrestlers");
        }
        playTrial(rounds);
        trial.putInOrder();
        return trial.atPlace(0);
    }

    public int pointsAfter(int wrestler, int rounds)
            throws IndexOutOfBoundsException, IllegalArgumentException {
        needWrestler(wrestler);
        needRoundsAhead(rounds);
        playTrial(rounds);
        return trial.of(POINTS, wrestler);
    }

    public double meanPoints() {
        if (field.wrestlers == 0) {
            return 0.0;
        }
        int sum = 0;
        for (int w = 0; w < field.wrestlers; w++) {
            sum += field.of(POINTS, w);
        }
        return (double) sum / field.wrestlers;
    }

    public long digest() {
        long d = 967;
        d = d * 31 + wrestlers();
        d = d * 31 + wrestlersIn();
        d = d * 31 + rules();
        d = d * 31 + rounds();
        d = d * 31 + tapeBytes();
        d = d * 31 + bouts();
        d = d * 31 + openBouts();
        field.putInOrder();
        for (int w = 0; w < field.wrestlers; w++) {
            d = digestWrestler(d, w);
        }
        for (int bout = 0; bout < field.bouts; bout++) {
            d = d * 31 + field.redIn(bout);
            d = d * 31 + field.blueIn(bout);
            d = d * 31 + field.outcomeIn(bout);
        }
        return d;
    }

    /** Needs the order of the field as it is now. */
    private long digestWrestler(long before, int wrestler) {
        long d = before;
        for (int count = STRENGTH; count <= FLOATS; count++) {
            d = d * 31 + field.of(count, wrestler);
        }
        d = d * 31 + field.pointsOfRivals(wrestler);
        d = d * 31 + field.placeOf(wrestler);
        d = d * 31 + field.of(IN, wrestler);
        for (int other = 0; other < field.wrestlers; other++) {
            d = d * 31 + field.meetings(wrestler, other);
        }
        return d;
    }

    private void needWrestler(int wrestler) throws IndexOutOfBoundsException {
        if (!field.hasWrestler(wrestler)) {
            throw new IndexOutOfBoundsException("no such wrestler");
        }
    }

    private void needBout(int bout) throws IndexOutOfBoundsException {
        if (!field.hasBout(bout)) {
            throw new IndexOutOfBoundsException("no such bout in the latest round");
        }
    }

    private void needPairable() throws IllegalStateException {
        if (!field.canPair()) {
            throw new IllegalStateException("no round can be paired now");
        }
    }

    private static void needRoundsAhead(int rounds) throws IllegalArgumentException {
        if (rounds < 1 || rounds > MOST_ROUNDS_AHEAD) {
            throw new IllegalArgumentException("rounds is not 1 to 10");
        }
    }

    /** Returns how many red wins the rules told. */
    private int tellOpenBouts(Field played) {
        int redWins = 0;
        for (int bout = 0; bout < played.bouts; bout++) {
            if (played.outcomeIn(bout) == NOT_TOLD) {
                int outcome = rules.outcomeFor(played, bout);
                played.tellOutcome(bout, outcome);
                redWins += outcome == RED_WINS ? 1 : 0;
            }
        }
        return redWins;
    }

    /** Lets the trial stand as the field would behind so many more rounds. */
    private void playTrial(int more) {
        trial.copyFrom(field);
        tellOpenBouts(trial);
        for (int i = 0; i < more && trial.canPair(); i++) {
            pairing.find(trial);
            trial.startRound(pairing);
            tellOpenBouts(trial);
        }
    }

    /** What a token is. */
    private enum Sign {
        WRESTLER("wrestler"), STRENGTH("strength"), POINTS("points"), DRAW("draw"), REST("rest"),
        RULE("rule"), RED("red"), BLUE("blue"), WINS("wins"), WHEN("when"), ROUND("round"),
        WON("won"), MET("met"), BELTS("belts"), FLOATS("floats"), NOT("not"), AND("and"),
        OR("or"), MIN("min"), MAX("max"),
        OPEN("("), CLOSE(")"), SQUARE_OPEN("["), SQUARE_CLOSE("]"), SEMICOLON(";"), COMMA(","),
        PLUS("+"), MINUS("-"), TIMES("*"), OVER("/"),
        LESS("<"), MORE(">"), EQUAL("="), AT_MOST("<="), AT_LEAST(">="),
        NAME(""), NUMBER(""), END(""), UNKNOWN("");

        private static final Sign[] ALL = values();

        private final String text;

        Sign(String text) {
            this.text = text;
        }
    }

    /** The bytes that are fed, and the tokens that they make. */
    private static final class Tape {
        private final byte[] bytes = new byte[MOST_BYTES];
        private int length = 0;

        // One place more than there may be tokens, for the end of the tape.
        private final Sign[] signs = new Sign[MOST_TOKENS + 1];
        private final int[] starts = new int[MOST_TOKENS + 1];
        private final int[] ends = new int[MOST_TOKENS + 1];
        private int tokens = 0;

        void append(int four) {
            for (int shift = 24; shift >= 0 && length < MOST_BYTES; shift -= 8) {
                bytes[length] = (byte) (four >> shift);
                length++;
            }
        }

        /** Splits the bytes into tokens; the last one is the end, or unknown. */
        void scan() {
            int at = 0;
            boolean goesOn = true;
            for (tokens = 0; goesOn && tokens <= MOST_TOKENS; tokens++) {
                int start = behindBlanks(at);
                at = endOfToken(start);
                Sign sign = signOf(start, at);
                if (tokens == MOST_TOKENS && sign != Sign.END) {
                    sign = Sign.UNKNOWN;
                }
                signs[tokens] = sign;
                starts[tokens] = start;
                ends[tokens] = at;
                goesOn = sign != Sign.END && sign != Sign.UNKNOWN;
            }
        }

        int start(int token) {
            return hasToken(token) ? starts[token] : length;
        }

        int number(int token) {
            int number = 0;
            if (hasToken(token) && signs[token] == Sign.NUMBER) {
                for (int i = starts[token]; i < ends[token]; i++) {
                    number = number * 10 + (byteAt(i) - '0');
                }
            }
            return number;
        }

        boolean sameText(int token, int other) {
            if (!hasToken(token) || !hasToken(other)) {
                return false;
            }
            int size = ends[token] - starts[token];
            boolean same = size == ends[other] - starts[other];
            for (int i = 0; same && i < size; i++) {
                same = byteAt(starts[token] + i) == byteAt(starts[other] + i);
            }
            return same;
        }

        private boolean hasToken(int token) {
            return token >= 0 && token < tokens && token < signs.length;
        }

        /** Returns 0, with which no token begins, outside of the tape. */
        private int byteAt(int at) {
            return at >= 0 && at < length && at < bytes.length ? bytes[at] : 0;
        }

        private int behindBlanks(int from) {
            int at = from;
            while (at < length && (byteAt(at) == ' ' || byteAt(at) == '\n')) {
                at++;
            }
            return at;
        }

        private int endOfToken(int start) {
            int first = byteAt(start);
            boolean word = isLetter(first);
            if (!word && !isDigit(first)) {
                return endOfSymbol(start);
            }
            int end = start + 1;
            while (end < length && (isDigit(byteAt(end)) || word && isLetter(byteAt(end)))) {
                end++;
            }
            return end;
        }

        private int endOfSymbol(int start) {
            int first = byteAt(start);
            boolean two = (first == '<' || first == '>') && byteAt(start + 1) == '=';
            return Math.min(start + (two ? 2 : 1), length);
        }

        private Sign signOf(int start, int end) {
            if (start >= length) {
                return Sign.END;
            }
            int first = byteAt(start);
            if (isDigit(first)) {
                return end - start > LONGEST_NUMBER ? Sign.UNKNOWN : Sign.NUMBER;
            }
            if (!isLetter(first)) {
                return signWithText(start, end, Sign.UNKNOWN);
            }
            return end - start > LONGEST_WORD ? Sign.UNKNOWN : signWithText(start, end, Sign.NAME);
        }

        private Sign signWithText(int start, int end, Sign otherwise) {
            for (int i = 0; i < Sign.ALL.length; i++) {
                Sign sign = Sign.ALL[i];
                if (isSpelt(sign.text, start, end)) {
                    return sign;
                }
            }
            return otherwise;
        }

        private boolean isSpelt(String text, int start, int end) {
            boolean same = text.length() == end - start;
            for (int i = 0; same && i < text.length(); i++) {
                same = byteAt(start + i) == text.charAt(i);
            }
            return same;
        }

        private static boolean isLetter(int b) {
            return b >= 'a' && b <= 'z';
        }

        private static boolean isDigit(int b) {
            return b >= '0' && b <= '9';
        }
    }

    /** Reads the tape as a tournament. What it read stands in it until the next reading. */
    private static final class Reader {
        private final Tape tape = new Tape();
        private final Rules rules = new Rules();
        private final int[] strengths = new int[MOST_WRESTLERS];
        private final int[] names = new int[MOST_WRESTLERS];
        private final int[] worth = new int[WORTHS];
        private int wrestlers = 0;
        private int at = 0;
        private int error = 0;
        private int errorAt = -1;

        /** Returns 0, or the error. */
        int read() {
            begin();
            boolean fits = true;
            for (int lines = 0; fits && lines < MOST_TOKENS && !sees(Sign.END); lines++) {
                fits = takes(Sign.WRESTLER) ? readWrestler()
                        : takes(Sign.POINTS) ? readPoints()
                        : takes(Sign.RULE) && readRule();
                fits = fits && takes(Sign.SEMICOLON);
            }
            if (!fits) {
                error = NOT_A_TOURNAMENT;
                errorAt = tape.start(at);
            }
            return error;
        }

        private void begin() {
            tape.scan();
            at = 0;
            error = 0;
            errorAt = -1;
            wrestlers = 0;
            worth[WIN_WORTH] = 2;
            worth[DRAW_WORTH] = 1;
            worth[REST_WORTH] = 2;
            rules.clear();
        }

        // Each of the following returns false at the first token that cannot stand there;
        // then at is that token.

        private boolean readWrestler() {
            if (!sees(Sign.NAME)) {
                return false;
            }
            checkName();
            int name = at;
            at++;
            if (!takes(Sign.STRENGTH) || !sees(Sign.NUMBER)) {
                return false;
            }
            int strength = takeNumber(1, GREATEST_STRENGTH);
            if (wrestlers < MOST_WRESTLERS) {
                names[wrestlers] = name;
                strengths[wrestlers] = strength;
                wrestlers++;
            }
            return true;
        }

        private void checkName() {
            for (int i = 0; i < wrestlers; i++) {
                if (tape.sameText(names[i], at)) {
                    noteError(NAME_TWICE, at);
                }
            }
            if (wrestlers == MOST_WRESTLERS) {
                noteError(TOO_MANY, at);
            }
        }

        private boolean readPoints() {
            for (int i = 0; i < WORTHS; i++) {
                if (!sees(Sign.NUMBER)) {
                    return false;
                }
                worth[i] = takeNumber(0, GREATEST_WORTH);
            }
            return true;
        }

        private boolean readRule() {
            if (rules.count == MOST_RULES) {
                noteError(TOO_MANY, at - 1);
            }
            int outcome = readOutcome();
            if (outcome == NOT_TOLD || takes(Sign.WHEN) && !readTest(0)) {
                return false;
            }
            rules.endRule(outcome);
            return true;
        }

        /** Returns NOT_TOLD at the first token that cannot stand there. */
        private int readOutcome() {
            if (takes(Sign.DRAW)) {
                return DRAW;
            }
            int outcome = sees(Sign.RED) ? RED_WINS : sees(Sign.BLUE) ? BLUE_WINS : NOT_TOLD;
            if (outcome == NOT_TOLD) {
                return NOT_TOLD;
            }
            at++;
            return takes(Sign.WINS) ? outcome : NOT_TOLD;
        }

        private boolean readTest(int depth) {
            if (!readBoth(depth)) {
                return false;
            }
            for (int more = 0; more < MOST_TOKENS && takes(Sign.OR); more++) {
                if (!readBoth(depth)) {
                    return false;
                }
                rules.emit(Rules.OR);
            }
            return true;
        }

        private boolean readBoth(int depth) {
            if (!readSingle(depth)) {
                return false;
            }
            for (int more = 0; more < MOST_TOKENS && takes(Sign.AND); more++) {
                if (!readSingle(depth)) {
                    return false;
                }
                rules.emit(Rules.AND);
            }
            return true;
        }

        private boolean readSingle(int depth) {
            if (sees(Sign.NOT)) {
                return readNot(depth);
            }
            if (sees(Sign.SQUARE_OPEN)) {
                return takesDeeper(Sign.SQUARE_OPEN, depth) && readTest(depth + 1)
                        && takes(Sign.SQUARE_CLOSE);
            }
            if (takes(Sign.MET)) {
                rules.emit(Rules.MET);
                return true;
            }
            return readComparison(depth);
        }

        private boolean readNot(int depth) {
            if (!takesDeeper(Sign.NOT, depth) || !readSingle(depth + 1)) {
                return false;
            }
            rules.emit(Rules.NOT);
            return true;
        }

        private boolean readComparison(int depth) {
            if (!readSum(depth)) {
                return false;
            }
            int comparison = comparisonSeen();
            if (comparison == Rules.NONE) {
                return false;
            }
            at++;
            if (!readSum(depth)) {
                return false;
            }
            rules.emit(comparison);
            return true;
        }

        private int comparisonSeen() {
            return sees(Sign.LESS) ? Rules.LESS
                    : sees(Sign.MORE) ? Rules.MORE
                    : sees(Sign.EQUAL) ? Rules.EQUAL
                    : sees(Sign.AT_MOST) ? Rules.AT_MOST
                    : sees(Sign.AT_LEAST) ? Rules.AT_LEAST
                    : Rules.NONE;
        }

        private boolean readSum(int depth) {
            if (!readProduct(depth)) {
                return false;
            }
            for (int more = 0; more < MOST_TOKENS && (sees(Sign.PLUS) || sees(Sign.MINUS)); more++) {
                int operation = sees(Sign.PLUS) ? Rules.ADD : Rules.SUBTRACT;
                at++;
                if (!readProduct(depth)) {
                    return false;
                }
                rules.emit(operation);
            }
            return true;
        }

        private boolean readProduct(int depth) {
            if (!readValue(depth)) {
                return false;
            }
            for (int more = 0; more < MOST_TOKENS && (sees(Sign.TIMES) || sees(Sign.OVER)); more++) {
                int operation = sees(Sign.TIMES) ? Rules.MULTIPLY : Rules.DIVIDE;
                at++;
                if (!readValue(depth)) {
                    return false;
                }
                rules.emit(operation);
            }
            return true;
        }

        private boolean readValue(int depth) {
            if (sees(Sign.NUMBER)) {
                rules.emit(Rules.NUMBER, tape.number(at));
                at++;
                return true;
            }
            if (takes(Sign.ROUND)) {
                rules.emit(Rules.ROUND);
                return true;
            }
            if (sees(Sign.MINUS)) {
                return readNegative(depth);
            }
            if (sees(Sign.OPEN)) {
                return takesDeeper(Sign.OPEN, depth) && readSum(depth + 1) && takes(Sign.CLOSE);
            }
            if (sees(Sign.MIN) || sees(Sign.MAX)) {
                return readChoice(depth);
            }
            int count = countSeen();
            return count != COUNTS && readSide(count);
        }

        private boolean readNegative(int depth) {
            if (!takesDeeper(Sign.MINUS, depth) || !readValue(depth + 1)) {
                return false;
            }
            rules.emit(Rules.NEGATE);
            return true;
        }

        private boolean readChoice(int depth) {
            int operation = sees(Sign.MIN) ? Rules.MIN : Rules.MAX;
            at++;
            if (!takesDeeper(Sign.OPEN, depth) || !readSum(depth + 1) || !takes(Sign.COMMA)
                    || !readSum(depth + 1) || !takes(Sign.CLOSE)) {
                return false;
            }
            rules.emit(operation);
            return true;
        }

        private boolean readSide(int count) {
            at++;
            if (!sees(Sign.RED) && !sees(Sign.BLUE)) {
                return false;
            }
            rules.emit(sees(Sign.RED) ? Rules.OF_RED : Rules.OF_BLUE, count);
            at++;
            return true;
        }

        /** Returns COUNTS if the token is none of them. */
        private int countSeen() {
            return sees(Sign.STRENGTH) ? STRENGTH
                    : sees(Sign.WON) ? WON
                    : sees(Sign.BELTS) ? BELTS
                    : sees(Sign.FLOATS) ? FLOATS
                    : sees(Sign.REST) ? RESTS
                    : sees(Sign.POINTS) ? POINTS
                    : COUNTS;
        }

        private boolean sees(Sign sign) {
            return at >= 0 && at < tape.tokens && tape.signs[at] == sign;
        }

        private boolean takes(Sign sign) {
            if (!sees(sign)) {
                return false;
            }
            at++;
            return true;
        }

        /** Takes a sign behind which the depth is one greater, if it may be. */
        private boolean takesDeeper(Sign sign, int depth) {
            if (depth >= MOST_DEPTH || !sees(sign)) {
                return false;
            }
            at++;
            return true;
        }

        private int takeNumber(int least, int most) {
            int number = tape.number(at);
            if (number < least || number > most) {
                noteError(NUMBER_OUT_OF_RANGE, at);
            }
            at++;
            return number;
        }

        /** Only the first one of these counts, and none if the tape is no tournament. */
        private void noteError(int found, int token) {
            if (error == 0) {
                error = found;
                errorAt = tape.start(token);
            }
        }
    }

    /** The rules; their tests are steps that work on a stack of numbers. */
    private static final class Rules {
        private static final int NONE = 0;
        private static final int NUMBER = 1;
        private static final int ROUND = 2;
        private static final int OF_RED = 3;
        private static final int OF_BLUE = 4;
        private static final int MET = 5;
        private static final int NEGATE = 6;
        private static final int NOT = 7;
        private static final int ADD = 8;
        private static final int SUBTRACT = 9;
        private static final int MULTIPLY = 10;
        private static final int DIVIDE = 11;
        private static final int MIN = 12;
        private static final int MAX = 13;
        private static final int LESS = 14;
        private static final int MORE = 15;
        private static final int EQUAL = 16;
        private static final int AT_MOST = 17;
        private static final int AT_LEAST = 18;
        private static final int AND = 19;
        private static final int OR = 20;

        private int count = 0;
        private final int[] outcomes = new int[MOST_RULES];
        private final int[] ends = new int[MOST_RULES];

        // A step stands for at least one token, so there are no more of them.
        private int steps = 0;
        private final int[] operations = new int[MOST_TOKENS];
        private final int[] operands = new int[MOST_TOKENS];

        private int top = 0;
        private final int[] stack = new int[MOST_TOKENS];

        void clear() {
            count = 0;
            steps = 0;
        }

        void copyFrom(Rules other) {
            count = other.count;
            steps = other.steps;
            System.arraycopy(other.outcomes, 0, outcomes, 0, MOST_RULES);
            System.arraycopy(other.ends, 0, ends, 0, MOST_RULES);
            System.arraycopy(other.operations, 0, operations, 0, MOST_TOKENS);
            System.arraycopy(other.operands, 0, operands, 0, MOST_TOKENS);
        }

        void emit(int operation) {
            emit(operation, 0);
        }

        void emit(int operation, int operand) {
            if (steps < MOST_TOKENS) {
                operations[steps] = operation;
                operands[steps] = operand;
                steps++;
            }
        }

        /** Makes a rule of the steps since the rule before. */
        void endRule(int outcome) {
            if (count < MOST_RULES) {
                outcomes[count] = outcome;
                ends[count] = steps;
                count++;
            }
        }

        int outcomeFor(Field field, int bout) {
            int from = 0;
            for (int rule = 0; rule < count && rule < MOST_RULES; rule++) {
                if (holds(from, ends[rule], field, bout)) {
                    return outcomes[rule];
                }
                from = ends[rule];
            }
            return DRAW;
        }

        private boolean holds(int from, int to, Field field, int bout) {
            top = 0;
            for (int i = from; i < to && i < MOST_TOKENS; i++) {
                doStep(operations[i], operands[i], field, bout);
            }
            return from == to || pop() != 0;
        }

        private void doStep(int operation, int operand, Field field, int bout) {
            switch (operation) {
                case NUMBER:
                    push(operand);
                    break;
                case ROUND:
                    push(field.rounds - 1);
                    break;
                case OF_RED:
                    push(field.of(operand, field.redIn(bout)));
                    break;
                case OF_BLUE:
                    push(field.of(operand, field.blueIn(bout)));
                    break;
                case MET:
                    // Once they meet in this very bout.
                    push(field.meetings(field.redIn(bout), field.blueIn(bout)) > 1 ? 1 : 0);
                    break;
                case NEGATE:
                    push(-pop());
                    break;
                case NOT:
                    push(1 - pop());
                    break;
                default:
                    int right = pop();
                    int left = pop();
                    push(join(operation, left, right));
            }
        }

        private static int join(int operation, int left, int right) {
            switch (operation) {
                case ADD:
                    return left + right;
                case SUBTRACT:
                    return left - right;
                case MULTIPLY:
                    return left * right;
                case DIVIDE:
                    return right == 0 ? 0 : left / right;
                case MIN:
                    return Math.min(left, right);
                case MAX:
                    return Math.max(left, right);
                case LESS:
                    return left < right ? 1 : 0;
                case MORE:
                    return left > right ? 1 : 0;
                case EQUAL:
                    return left == right ? 1 : 0;
                case AT_MOST:
                    return left <= right ? 1 : 0;
                case AT_LEAST:
                    return left >= right ? 1 : 0;
                case AND:
                    return left & right;
                case OR:
                    return left | right;
                default:
                    return 0;
            }
        }

        private void push(int number) {
            if (top < MOST_TOKENS) {
                stack[top] = number;
                top++;
            }
        }

        private int pop() {
            if (top <= 0) {
                return 0;
            }
            top--;
            return stack[top];
        }
    }

    /** The wrestlers, what is counted of them, and the latest round. */
    private static final class Field {
        private int wrestlers = 0;
        private int rounds = 0;
        private final int[] worth = new int[WORTHS];
        private final int[] counts = new int[COUNTS * MOST_WRESTLERS];
        private final int[] met = new int[MOST_WRESTLERS * MOST_WRESTLERS];

        private int bouts = 0;
        private final int[] reds = new int[MOST_BOUTS];
        private final int[] blues = new int[MOST_BOUTS];
        private final int[] outcomes = new int[MOST_BOUTS];
        private int resting = NOBODY;

        // As they were when putInOrder() was called last.
        private final int[] order = new int[MOST_WRESTLERS];
        private final int[] metPoints = new int[MOST_WRESTLERS];

        void begin(int howMany, int[] strengths, int[] worths) {
            wrestlers = Math.min(Math.min(howMany, MOST_WRESTLERS), strengths.length);
            rounds = 0;
            bouts = 0;
            resting = NOBODY;
            Arrays.fill(counts, 0);
            Arrays.fill(met, 0);
            for (int w = 0; w < wrestlers; w++) {
                set(STRENGTH, w, strengths[w]);
                set(IN, w, 1);
            }
            for (int i = 0; i < WORTHS && i < worths.length; i++) {
                worth[i] = worths[i];
            }
        }

        void copyFrom(Field other) {
            wrestlers = other.wrestlers;
            rounds = other.rounds;
            bouts = other.bouts;
            resting = other.resting;
            System.arraycopy(other.worth, 0, worth, 0, WORTHS);
            System.arraycopy(other.counts, 0, counts, 0, COUNTS * MOST_WRESTLERS);
            System.arraycopy(other.met, 0, met, 0, MOST_WRESTLERS * MOST_WRESTLERS);
            System.arraycopy(other.reds, 0, reds, 0, MOST_BOUTS);
            System.arraycopy(other.blues, 0, blues, 0, MOST_BOUTS);
            System.arraycopy(other.outcomes, 0, outcomes, 0, MOST_BOUTS);
        }

        boolean hasWrestler(int wrestler) {
            return wrestler >= 0 && wrestler < wrestlers;
        }

        boolean hasBout(int bout) {
            return bout >= 0 && bout < bouts;
        }

        int of(int count, int wrestler) {
            return hasCount(count, wrestler) ? counts[count * MOST_WRESTLERS + wrestler] : 0;
        }

        void set(int count, int wrestler, int to) {
            if (hasCount(count, wrestler)) {
                counts[count * MOST_WRESTLERS + wrestler] = to;
            }
        }

        private boolean hasCount(int count, int wrestler) {
            return count >= 0 && count < COUNTS && wrestler >= 0 && wrestler < wrestlers;
        }

        private void add(int count, int wrestler, int more) {
            set(count, wrestler, of(count, wrestler) + more);
        }

        int meetings(int a, int b) {
            return hasWrestler(a) && hasWrestler(b) ? met[a * MOST_WRESTLERS + b] : 0;
        }

        private void addMeeting(int a, int b) {
            if (hasWrestler(a) && hasWrestler(b)) {
                met[a * MOST_WRESTLERS + b]++;
                met[b * MOST_WRESTLERS + a]++;
            }
        }

        int redIn(int bout) {
            return hasBout(bout) ? reds[bout] : NOBODY;
        }

        int blueIn(int bout) {
            return hasBout(bout) ? blues[bout] : NOBODY;
        }

        int outcomeIn(int bout) {
            return hasBout(bout) ? outcomes[bout] : NOT_TOLD;
        }

        int countIn() {
            int in = 0;
            for (int w = 0; w < wrestlers; w++) {
                in += of(IN, w);
            }
            return in;
        }

        int countOpen() {
            int open = 0;
            for (int bout = 0; bout < bouts; bout++) {
                open += outcomeIn(bout) == NOT_TOLD ? 1 : 0;
            }
            return open;
        }

        boolean canPair() {
            return countOpen() == 0 && rounds < MOST_ROUNDS && countIn() >= 2;
        }

        int rivalOf(int wrestler) {
            for (int bout = 0; bout < bouts; bout++) {
                if (redIn(bout) == wrestler) {
                    return blueIn(bout);
                }
                if (blueIn(bout) == wrestler) {
                    return redIn(bout);
                }
            }
            return NOBODY;
        }

        int pointsOfRivals(int wrestler) {
            int sum = 0;
            for (int other = 0; other < wrestlers; other++) {
                sum += meetings(wrestler, other) * of(POINTS, other);
            }
            return sum;
        }

        void putInOrder() {
            for (int w = 0; w < wrestlers; w++) {
                metPoints[w] = pointsOfRivals(w);
            }
            for (int w = 0; w < wrestlers; w++) {
                int place = w;
                while (place > 0 && standsAhead(w, order[place - 1])) {
                    order[place] = order[place - 1];
                    place--;
                }
                order[place] = w;
            }
        }

        int atPlace(int place) {
            return hasWrestler(place) ? order[place] : NOBODY;
        }

        int placeOf(int wrestler) {
            int place = 0;
            while (place < wrestlers && order[place] != wrestler) {
                place++;
            }
            return place;
        }

        private boolean standsAhead(int a, int b) {
            if (of(POINTS, a) != of(POINTS, b)) {
                return of(POINTS, a) > of(POINTS, b);
            }
            if (metPoints[a] != metPoints[b]) {
                return metPoints[a] > metPoints[b];
            }
            if (of(STRENGTH, a) != of(STRENGTH, b)) {
                return of(STRENGTH, a) > of(STRENGTH, b);
            }
            return a < b;
        }

        void startRound(Pairing next) {
            rounds++;
            bouts = next.pairs;
            for (int bout = 0; bout < bouts; bout++) {
                startBout(bout, next.aheadIn(bout), next.behindIn(bout));
            }
            resting = next.resting;
            if (resting != NOBODY) {
                add(RESTS, resting, 1);
                add(POINTS, resting, worth[REST_WORTH]);
            }
        }

        private void startBout(int bout, int ahead, int behind) {
            if (!hasBout(bout)) {
                return;
            }
            boolean aheadIsRed = takesRedAhead(ahead, behind);
            reds[bout] = aheadIsRed ? ahead : behind;
            blues[bout] = aheadIsRed ? behind : ahead;
            outcomes[bout] = NOT_TOLD;
            addMeeting(ahead, behind);
            // The one ahead never has fewer points.
            if (of(POINTS, ahead) > of(POINTS, behind)) {
                add(FLOATS, ahead, 1);
            }
            add(BELTS, reds[bout], 1);
            set(BLUE_LAST, reds[bout], 0);
            add(BELTS, blues[bout], -1);
            set(BLUE_LAST, blues[bout], 1);
        }

        private boolean takesRedAhead(int ahead, int behind) {
            if (of(BELTS, ahead) != of(BELTS, behind)) {
                return of(BELTS, ahead) < of(BELTS, behind);
            }
            return of(BLUE_LAST, ahead) >= of(BLUE_LAST, behind);
        }

        void tellOutcome(int bout, int outcome) {
            if (!hasBout(bout)) {
                return;
            }
            outcomes[bout] = outcome;
            if (outcome == DRAW) {
                tellDraw(reds[bout]);
                tellDraw(blues[bout]);
            } else {
                boolean redWins = outcome == RED_WINS;
                add(WON, redWins ? reds[bout] : blues[bout], 1);
                add(POINTS, redWins ? reds[bout] : blues[bout], worth[WIN_WORTH]);
                add(LOST, redWins ? blues[bout] : reds[bout], 1);
            }
        }

        private void tellDraw(int wrestler) {
            add(DRAWN, wrestler, 1);
            add(POINTS, wrestler, worth[DRAW_WORTH]);
        }
    }

    /** Finds who would meet whom in the next round of a field. */
    private static final class Pairing {
        private static final int NOT_RECKONED = -1;

        private int pairs = 0;
        private int rematches = 0;
        private int resting = NOBODY;
        private final int[] aheads = new int[MOST_BOUTS];
        private final int[] behinds = new int[MOST_BOUTS];

        // Those who are paired, in their order; a set of them is a number with a bit for each place.
        private int size = 0;
        private final int[] line = new int[MOST_WRESTLERS];
        private final int[] metBy = new int[MOST_WRESTLERS];
        private final int[] fewest = new int[1 << MOST_WRESTLERS];

        void find(Field field) {
            lineUp(field);
            takeOutResting(field);
            noteMeetings(field);
            Arrays.fill(fewest, NOT_RECKONED);
            pairs = size / 2;
            int free = (1 << size) - 1;
            rematches = fewestRematches(free, pairs);
            for (int pair = 0; pair < pairs; pair++) {
                int first = firstOf(free);
                int rest = free & ~(1 << first);
                int second = secondFor(first, rest, pairs - pair - 1);
                aheads[pair] = line[first];
                behinds[pair] = line[second];
                free = rest & ~(1 << second);
            }
        }

        int aheadIn(int pair) {
            return pair >= 0 && pair < pairs ? aheads[pair] : NOBODY;
        }

        int behindIn(int pair) {
            return pair >= 0 && pair < pairs ? behinds[pair] : NOBODY;
        }

        int rivalOf(int wrestler) {
            for (int pair = 0; pair < pairs; pair++) {
                if (aheads[pair] == wrestler) {
                    return behinds[pair];
                }
                if (behinds[pair] == wrestler) {
                    return aheads[pair];
                }
            }
            return NOBODY;
        }

        private void lineUp(Field field) {
            field.putInOrder();
            size = 0;
            for (int place = 0; place < field.wrestlers; place++) {
                int wrestler = field.atPlace(place);
                if (field.of(IN, wrestler) != 0 && size < MOST_WRESTLERS) {
                    line[size] = wrestler;
                    size++;
                }
            }
        }

        private void takeOutResting(Field field) {
            resting = NOBODY;
            if (size % 2 == 0) {
                return;
            }
            int chosen = 0;
            for (int i = 1; i < size; i++) {
                if (field.of(RESTS, line[i]) <= field.of(RESTS, line[chosen])) {
                    chosen = i;
                }
            }
            resting = line[chosen];
            size--;
            for (int i = chosen; i < size; i++) {
                line[i] = line[i + 1];
            }
        }

        private void noteMeetings(Field field) {
            for (int i = 0; i < size; i++) {
                metBy[i] = 0;
                for (int j = 0; j < size; j++) {
                    if (field.meetings(line[i], line[j]) > 0) {
                        metBy[i] |= 1 << j;
                    }
                }
            }
        }

        /** Returns the place farthest ahead that still leaves the fewest rematches. */
        private int secondFor(int first, int rest, int pairsBehind) {
            int whole = fewestRematches(rest | 1 << first, pairsBehind + 1);
            for (int second = first + 1; second < size; second++) {
                if (has(rest, second) && rematchesWith(first, second, rest, pairsBehind) == whole) {
                    return second;
                }
            }
            return first;
        }

        /** Returns the fewest pairs who have met, of all ways to pair those who are free. */
        private int fewestRematches(int free, int pairsOfThem) {
            if (pairsOfThem <= 0 || free <= 0 || free >= fewest.length) {
                return 0;
            }
            if (fewest[free] == NOT_RECKONED) {
                fewest[free] = reckonFewest(free, pairsOfThem);
            }
            return fewest[free];
        }

        private int reckonFewest(int free, int pairsOfThem) {
            int first = firstOf(free);
            int rest = free & ~(1 << first);
            int best = pairsOfThem;
            for (int second = first + 1; second < size && best > 0; second++) {
                if (has(rest, second)) {
                    best = Math.min(best, rematchesWith(first, second, rest, pairsOfThem - 1));
                }
            }
            return best;
        }

        private int rematchesWith(int first, int second, int rest, int pairsBehind) {
            int behind = fewestRematches(rest & ~(1 << second), pairsBehind);
            return has(metBy[first], second) ? behind + 1 : behind;
        }

        private static boolean has(int set, int place) {
            return (set >> place & 1) != 0;
        }

        /** Returns a place of the line, whatever the set is. */
        private static int firstOf(int set) {
            return Math.min(Integer.numberOfTrailingZeros(set), MOST_WRESTLERS - 1);
        }
    }
}
