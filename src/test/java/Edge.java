import java.io.IOException;
import java.nio.file.Files;
import java.nio.file.Path;
import java.util.ArrayList;
import java.util.LinkedHashMap;
import java.util.List;
import java.util.Map;

/** What the tests of the boundary cases share: the sentences of the document, and calls that change nothing. */
final class Edge {
    static final int LEAST = Integer.MIN_VALUE;
    static final int MOST = Integer.MAX_VALUE;
    static final String NO_INDEX = "throws.IndexOutOfBoundsException";
    static final String NO_ARGUMENT = "throws.IllegalArgumentException";
    static final String NO_STATE = "throws.IllegalStateException";

    private static final Path DOCUMENT = Path.of("../shared/DOC.md");
    private static final Map<String, String> SECTIONS = sections();
    private static final List<String> SAID = new ArrayList<>();

    // Sentences of "Terms" that name no boundary case, by what they begin with.
    private static final String[] NO_BOUNDARY = {
        "In each round those with as many points meet", "== 1. The language", "It is a row of tokens.",
        "Depth.", "Errors.", "== 2. Rounds", "Order.", "Pairing.", "Belts.", "Ahead of the calls",
    };

    private Edge() {
    }

    interface Maker {
        BeltRounds make();
    }

    interface Act {
        Object on(BeltRounds x);
    }

    // ---- the sentences

    /** The tests behind this call are those of a sentence, or a part of one, that stands in the document. */
    static void says(String section, String sentence) {
        Check.about = "";
        SAID.add(section + ": " + sentence);
        if (!SECTIONS.isEmpty()) {
            Check.holds(section + " says: " + sentence, SECTIONS.getOrDefault(section, "").contains(sentence));
        }
        Check.about = "[" + section + ": " + sentence + "] ";
    }

    private static Map<String, String> sections() {
        Map<String, String> sections = new LinkedHashMap<>();
        if (!Files.exists(DOCUMENT)) {
            System.out.println(DOCUMENT + " is not there: the sentences are not compared with it");
            return sections;
        }
        try {
            String title = "";
            for (String line : Files.readAllLines(DOCUMENT)) {
                if (line.startsWith("## ")) {
                    title = line.substring(3).replaceAll("(Promise \\d+):.*", "$1");
                } else if (!line.startsWith("```")) {
                    sections.merge(title, line.trim().replaceAll("\\s+", " "), (a, b) -> (a + " " + b).trim());
                }
            }
        } catch (IOException e) {
            throw new IllegalStateException(e);
        }
        return sections;
    }

    /** Each promise, each "Throws" and each sentence of the terms has a test, or is told to have no boundary. */
    static void everySentence() {
        Check.about = "";
        for (Map.Entry<String, String> section : SECTIONS.entrySet()) {
            String title = section.getKey();
            if (title.startsWith("Promise")) {
                Check.holds(title + " has a test", SAID.stream().anyMatch(s -> s.startsWith(title + ": ")));
                for (String throwing : section.getValue().split("(?=Throws `)")) {
                    Check.holds(title + " has a test of: " + throwing,
                            !throwing.startsWith("Throws `") || SAID.contains(title + ": " + throwing.trim()));
                }
            }
        }
        for (String sentence : SECTIONS.getOrDefault("Terms", "").split("(?<=\\.) (?=[A-Z=])")) {
            Check.holds("Terms have a test of: " + sentence, hasTest(sentence));
        }
    }

    private static boolean hasTest(String sentence) {
        for (String begin : NO_BOUNDARY) {
            if (sentence.startsWith(begin) || begin.startsWith(sentence)) {
                return true;
            }
        }
        return SAID.stream().anyMatch(s -> s.startsWith("Terms: ") && sentence.contains(s.substring(7)));
    }

    // ---- what changes nothing

    /** The call answers (or throws) this, and the object goes on as one that was not asked. */
    static void changesNothing(String what, Maker maker, Act call, Object due) {
        BeltRounds asked = maker.make();
        BeltRounds other = maker.make();
        Check.same(what, Check.answerOf(() -> call.on(asked)), due);
        Check.same("errorAt() behind " + what, asked.errorAt(), other.errorAt());
        goesOnAs(what, asked, other);
    }

    static void goesOnAs(String what, BeltRounds asked, BeltRounds other) {
        Check.same("what goes on behind " + what, goOn(asked), goOn(other));
    }

    /** All that can be asked of an object, now, with all outcomes told, a round later, and of what the tape has. */
    private static List<Object> goOn(BeltRounds x) {
        List<Object> seen = new ArrayList<>();
        look(x, seen);
        for (int bout = 0; bout < x.bouts(); bout++) {
            int b = bout;
            seen.add(Check.answerOf(() -> x.tell(b, b % 3)));
        }
        look(x, seen);
        seen.add(Check.answerOf(x::pairRound));
        look(x, seen);
        seen.add(x.teach());
        seen.add(x.errorAt());
        look(x, seen);
        return seen;
    }

    private static void look(BeltRounds x, List<Object> seen) {
        seen.add(x.digest());
        seen.add(x.meanPoints());
        seen.add(Check.answerOf(x::restingOne));
        seen.add(Check.answerOf(x::nextRematches));
        seen.add(Check.answerOf(() -> x.leaderAfter(3)));
        for (int wrestler = 0; wrestler < x.wrestlers(); wrestler++) {
            int w = wrestler;
            seen.add(Check.answerOf(() -> x.opponentOf(w)));
            seen.add(Check.answerOf(() -> x.nextOpponentOf(w)));
            seen.add(Check.answerOf(() -> x.pointsAfter(w, 2)));
        }
        for (int bout = 0; bout < x.bouts(); bout++) {
            int b = bout;
            seen.add(Check.answerOf(() -> x.outcomeOf(b)));
            seen.add(Check.answerOf(() -> x.ruledOutcome(b)));
        }
    }

    // ---- what the tests ask

    interface Count {
        int of(int place);
    }

    static void each(String what, Count count, int... due) {
        for (int i = 0; i < due.length; i++) {
            Check.same(what + "(" + i + ")", count.of(i), due[i]);
        }
    }

    /** Wrestlers 0, 1 and so on, each one weaker than the one ahead. */
    static String many(int howMany) {
        StringBuilder text = new StringBuilder();
        for (int i = 0; i < howMany; i++) {
            text.append("wrestler w").append(i).append(" strength ").append(100 - i).append(';');
        }
        return text.toString();
    }
}
