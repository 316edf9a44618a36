import java.io.File;
import java.io.IOException;
import java.lang.reflect.Method;
import java.lang.reflect.Modifier;
import java.nio.charset.StandardCharsets;
import java.nio.file.Files;
import java.nio.file.Path;
import java.util.ArrayList;
import java.util.Collections;
import java.util.List;
import java.util.Set;
import java.util.TreeSet;
import java.util.regex.Matcher;
import java.util.regex.Pattern;
import java.util.stream.Stream;
import javax.tools.ToolProvider;

/** What README.md says of the class, of its tests and of .ci/run holds. Run from the project's folder. */
public final class ReadmeTest {
    private static final Path TESTS = Path.of("src/test/java");

    private static String readme = "";

    public static void main(String[] args) throws Exception {
        readme = Files.readString(Path.of("README.md"));
        program();
        limits();
        room();
        calls();
        classes();
        tests();
        files();
        Check.end("ReadmeTest");
    }

    // ---- the program

    /** The program of the page is compiled, and prints what stands behind it. */
    private static void program() throws Exception {
        Path folder = Files.createTempDirectory("readme");
        Path file = folder.resolve("Example.java");
        try {
            Files.writeString(file, block("java"));
            int code = ToolProvider.getSystemJavaCompiler().run(null, null, null, "-encoding", "UTF-8",
                    "-d", folder.toString(), "-cp", System.getProperty("java.class.path"), file.toString());
            Check.same("javac of the program", code, 0);
            if (code == 0) {
                Check.same("what the program prints", printed(folder), block("text"));
            }
        } finally {
            remove(folder);
        }
    }

    private static String block(String kind) {
        Matcher m = Pattern.compile("(?m)^```" + kind + "\n((?s:.*?))^```$").matcher(readme);
        boolean found = m.find();
        Check.holds("there is a block of " + kind, found);
        String text = found ? m.group(1) : "";
        Check.holds("there is one block of " + kind, found && !m.find());
        return text;
    }

    /** What another Java machine prints, so that nothing of this one is in its way. */
    private static String printed(Path folder) throws Exception {
        String path = folder + File.pathSeparator + System.getProperty("java.class.path");
        String java = Path.of(System.getProperty("java.home"), "bin", "java").toString();
        Process process = new ProcessBuilder(java, "-cp", path, "Example").redirectErrorStream(true).start();
        String text = new String(process.getInputStream().readAllBytes(), StandardCharsets.UTF_8);
        Check.same("how the program ends", process.waitFor(), 0);
        return text.replace("\r\n", "\n");
    }

    private static void remove(Path folder) throws IOException {
        List<Path> all = new ArrayList<>();
        try (Stream<Path> walk = Files.walk(folder)) {
            walk.forEach(all::add);
        }
        Collections.reverse(all);
        for (Path path : all) {
            Files.delete(path);
        }
    }

    // ---- what it says of the class

    private static int said(String pattern) {
        Matcher m = Pattern.compile(pattern).matcher(readme.replaceAll("\\s+", " "));
        boolean found = m.find();
        Check.holds("the page says " + pattern, found);
        return found ? Integer.parseInt(m.group(1)) : 0;
    }

    private static void limits() {
        BeltRounds x = new BeltRounds();
        int bytes = said("A tape has at most (\\d+) bytes");
        for (int i = 0; i < bytes / 20; i++) {
            Check.same("feed()", Check.answerOf(() -> x.feed(0, 0, 0, 0, 0)), 20 * i + 20);
        }
        Check.noState("feed() of a full tape", () -> x.feed(0, 0, 0, 0, 0));
        // Four tokens ahead of the sums, two in each of them, and four behind them.
        int tokens = said("bytes and (\\d+) tokens");
        String sum = "rule draw when 1" + "+1".repeat((tokens - 8) / 2) + "=-1;";
        Check.same("teach() of as many tokens", Check.teach(new BeltRounds(), sum), 0);
        Check.same("teach() of a token more", Check.teach(new BeltRounds(), sum.replace("=", "=-")), 1);
        int wrestlers = said("a tournament (\\d+) wrestlers");
        Check.same("teach() of all", Check.teach(new BeltRounds(), Edge.many(wrestlers)), 0);
        Check.same("teach() of one more", Check.teach(new BeltRounds(), Edge.many(wrestlers + 1)), 4);
        int rules = said("wrestlers, (\\d+) rules");
        Check.same("teach() of all", Check.teach(new BeltRounds(), "rule draw;".repeat(rules)), 0);
        Check.same("teach() of one more", Check.teach(new BeltRounds(), "rule draw;".repeat(rules + 1)), 4);
        int rounds = said("rules and (\\d+) rounds");
        BeltRounds y = Check.taught(Edge.many(2));
        for (int i = 0; i < rounds; i++) {
            Check.same("pairRound()", Check.answerOf(y::pairRound), 1);
            Check.same("tell()", Check.answerOf(() -> y.tell(0, 1)), 0);
        }
        Check.noState("pairRound() of one more", y::pairRound);
    }

    private static void room() throws IllegalAccessException {
        int some = said("some (\\d+) fields and elements an object");
        long cells = RoomTest.cellsOf(new BeltRounds());
        Check.holds("an object has some " + some + ": " + cells, Math.abs(cells - some) <= 100);
    }

    /** Each call of the face is named in the list of them, once, and no other name is. */
    private static void calls() {
        List<String> due = new ArrayList<>();
        for (Method m : BeltRounds.class.getDeclaredMethods()) {
            if (Modifier.isPublic(m.getModifiers())) {
                due.add(m.getName());
            }
        }
        List<String> named = new ArrayList<>();
        Matcher item = Pattern.compile("(?m)^- [^`:]+: ((?s:.*?))(?=\n\n|\n- )")
                .matcher(between("What can be called:\n", "A tape has at most"));
        while (item.find()) {
            Matcher name = Pattern.compile("`(\\w+)`[,.]").matcher(item.group(1));
            while (name.find()) {
                named.add(name.group(1));
            }
        }
        Collections.sort(due);
        Collections.sort(named);
        Check.same("the calls that are named", named, due);
    }

    private static String between(String from, String to) {
        int start = readme.indexOf(from);
        int end = readme.indexOf(to, Math.max(start, 0));
        Check.holds("the page has: " + from, start >= 0);
        Check.holds("the page has, behind it: " + to, end >= 0);
        return start >= 0 && end >= 0 ? readme.substring(start + from.length(), end) : "";
    }

    private static void classes() {
        String made = between("## How it is made", "## How to run its tests");
        Set<String> due = new TreeSet<>();
        for (Class<?> inner : BeltRounds.class.getDeclaredClasses()) {
            due.add(inner.getSimpleName());
        }
        Check.same("the classes that are named", names(made, "`([A-Z]\\w*)`"), due);
    }

    private static Set<String> names(String text, String pattern) {
        Set<String> names = new TreeSet<>();
        Matcher m = Pattern.compile(pattern).matcher(text);
        while (m.find()) {
            names.add(m.group(1));
        }
        return names;
    }

    // ---- what it says of the tests

    private static void tests() throws IOException {
        Set<String> due = new TreeSet<>();
        try (Stream<Path> files = Files.list(TESTS)) {
            files.map(f -> f.getFileName().toString()).filter(f -> f.endsWith("Test.java"))
                    .forEach(f -> due.add(f.replace(".java", "")));
        }
        String said = between("## How to run its tests", "One test alone:");
        Check.same("the tests that are named", names(said, "`(\\w+Test)`"), due);
        for (String name : names(said, "`([A-Z]\\w+)`")) {
            Check.holds(name + " is there", Files.exists(TESTS.resolve(name + ".java")));
        }
        for (String name : due) {
            String source = Files.readString(TESTS.resolve(name + ".java"));
            Check.holds(name + " has no package", !Pattern.compile("(?m)^package ").matcher(source).find());
            Check.holds(name + " ends as the page says", source.contains("Check.end(\"" + name + "\");"));
        }
    }

    /** The files that are named are there; the script can be run, and runs what the page says. */
    private static void files() throws IOException {
        for (String name : names(readme, "`((?:\\.\\./shared|src)/[\\w/.]*\\w)`")) {
            Check.holds(name + " is there", Files.exists(Path.of(name)));
        }
        Path script = Path.of(".ci/run");
        Check.holds(script + " can be run", Files.isExecutable(script));
        String text = Files.readString(script);
        Check.holds(script + " runs the tests of shared", text.contains("shared=../shared/tests")
                && text.contains("\"$shared\"/*.java"));
        Check.holds(script + " runs the project's tests", text.contains("src/test/java/*Test.java"));
        Set<String> imports = names(Files.readString(Path.of("src/main/java/BeltRounds.java")), "(?m)^import (.*);$");
        Check.same("the library of the class", imports, Set.of(said("library but `([\\w.]+)`", "")));
    }

    private static String said(String pattern, String otherwise) {
        Matcher m = Pattern.compile(pattern).matcher(readme.replaceAll("\\s+", " "));
        return m.find() ? m.group(1) : otherwise;
    }
}
