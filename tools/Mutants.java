import java.io.IOException;
import java.nio.file.Files;
import java.nio.file.Path;
import java.util.ArrayList;
import java.util.List;
import java.util.concurrent.ExecutorService;
import java.util.concurrent.Executors;
import java.util.concurrent.Future;
import java.util.concurrent.TimeUnit;
import java.util.regex.Matcher;
import java.util.regex.Pattern;
import javax.tools.ToolProvider;

/**
 * Breaks the class in one place at a time and tells which breaks none of the named tests find:
 * java tools/Mutants.java TellingEdgeTests MeetingEdgeTests HavingEdgeTests
 */
public final class Mutants {
    private static final Path MAIN = Path.of("src/main/java/EightMinutes.java");
    private static final Path TESTS = Path.of("src/test/java");
    private static final int SECONDS = 60;

    /** What is looked for, and by what it is replaced ($0 .. as in a Matcher), one change at a time. */
    private static final String[][] CHANGES = {
        {" < ", " <= "}, {" < ", " > "}, {" <= ", " < "}, {" > ", " >= "}, {" > ", " < "}, {" >= ", " > "},
        {" == ", " != "}, {" != ", " == "}, {" && ", " || "}, {" \\|\\| ", " && "},
        {" \\+ ", " - "}, {" - ", " + "}, {" \\* ", " / "}, {" / ", " * "}, {" % ", " * "}, {" & ", " | "}, {"~", ""},
        {"!(?=[a-z])", ""}, {"\\+\\+", "--"}, {" \\+= ", " -= "}, {" \\|= ", " &= "}, {" \\*= ", " += "},
        {"\\b(\\d+)\\b", "($1 + 1)"}, {"\\b(\\d+)\\b", "($1 - 1)"},
        {"\\btrue\\b", "false"}, {"\\bfalse\\b", "true"}, {"\\bLEFT\\b", "RIGHT"}, {"\\bRIGHT\\b", "LEFT"},
        {"\\bmind\\b", "told"}, {"\\btold\\b", "mind"}, {"\\bkept\\b", "told"},
        {"'(\\w)'", "'x'"}, {"\\bone\\b", "other"}, {"\\bother\\b", "one"},
        {"refuse\\((\\w+)\\)", "$1"}, {"refuse\\(\\w+\\)", "refuse(OTHER)"}, {"refuse\\(\\w+\\)", "refuse(ROOM)"},
        {"(?m)^ +(?!return|int |boolean |final |private |case |break|continue|String )[\\w.\\[\\]]+[^\n]*;$", " ;"},
        {"\\bcontinue;", ";"}, {"\\breturn false;", ";"}, {"if \\(.*\\) \\{$", "if (false) {"}};

    private final Path out;
    private final String source;
    private final String[] tests;
    private int made = 0;

    private Mutants(Path out, String source, String[] tests) {
        this.out = out;
        this.source = source;
        this.tests = tests;
    }

    public static void main(String[] args) throws Exception {
        Path out = Files.createTempDirectory("mutants");
        Mutants mutants = new Mutants(out, Files.readString(MAIN), args);
        List<String> options = new ArrayList<>(List.of("-d", out.resolve("tests").toString(), "-sourcepath", TESTS.toString(), MAIN.toString()));
        for (String test : args) {
            options.add(TESTS.resolve(test + ".java").toString());
        }
        Files.createDirectories(out.resolve("tests"));
        if (ToolProvider.getSystemJavaCompiler().run(null, null, null, options.toArray(new String[0])) != 0) {
            throw new IllegalStateException("the tests do not compile");
        }
        mutants.breakAll();
    }

    private void breakAll() throws Exception {
        ExecutorService pool = Executors.newFixedThreadPool(Runtime.getRuntime().availableProcessors());
        List<Future<String>> outcomes = new ArrayList<>();
        for (String[] change : CHANGES) {
            Matcher matcher = Pattern.compile(change[0], Pattern.MULTILINE).matcher(source);
            while (matcher.find()) {
                if (isComment(matcher.start())) {
                    continue;
                }
                StringBuilder mutant = new StringBuilder();
                Matcher here = Pattern.compile(change[0], Pattern.MULTILINE).matcher(source);
                here.find(matcher.start());
                here.appendReplacement(mutant, change[1]);
                here.appendTail(mutant);
                if (mutant.toString().equals(source)) {
                    continue;
                }
                int number = made++;
                String name = lineAt(matcher.start()) + "   [" + matcher.group().trim() + " -> " + change[1] + "]";
                outcomes.add(pool.submit(() -> outcome(number, mutant.toString(), name)));
            }
        }
        int found = 0;
        int wrongJava = 0;
        for (Future<String> outcome : outcomes) {
            String text = outcome.get();
            found += text.equals("found") ? 1 : 0;
            wrongJava += text.equals("no Java") ? 1 : 0;
            if (!text.equals("found") && !text.equals("no Java")) {
                System.out.println(text);
            }
        }
        pool.shutdown();
        System.out.println(made + " breaks: " + wrongJava + " are no Java, " + found + " found, " + (made - wrongJava - found) + " not");
    }

    private boolean isComment(int at) {
        String line = source.substring(source.lastIndexOf('\n', at) + 1, source.indexOf('\n', at)).trim();
        return line.startsWith("/*") || line.startsWith("*") || line.startsWith("//");
    }

    private String lineAt(int at) {
        long number = source.substring(0, at).chars().filter(c -> c == '\n').count() + 1;
        int start = source.lastIndexOf('\n', at - 1) + 1;
        int end = source.indexOf('\n', at);
        return number + ": " + source.substring(start, end).trim();
    }

    private String outcome(int number, String mutant, String name) throws IOException, InterruptedException {
        Path dir = out.resolve("m" + number);
        Files.createDirectories(dir);
        Path file = dir.resolve("EightMinutes.java");
        Files.writeString(file, mutant);
        java.io.ByteArrayOutputStream silent = new java.io.ByteArrayOutputStream();
        if (ToolProvider.getSystemJavaCompiler().run(null, silent, silent, "-d", dir.toString(), file.toString()) != 0) {
            return "no Java";
        }
        for (String test : tests) {
            Process run = new ProcessBuilder("java", "-XX:TieredStopAtLevel=1", "-cp", dir + ":" + out.resolve("tests"), test)
                .redirectErrorStream(true).redirectOutput(ProcessBuilder.Redirect.DISCARD).start();
            boolean isOver = run.waitFor(SECONDS, TimeUnit.SECONDS);
            if (!isOver) {
                run.destroyForcibly();
            }
            if (!isOver || run.exitValue() != 0) {
                return "found";
            }
        }
        return name;
    }
}
