import java.io.File;
import java.io.IOException;
import java.nio.file.DirectoryStream;
import java.nio.file.Files;
import java.nio.file.Path;
import java.util.ArrayList;
import java.util.Comparator;
import java.util.List;
import java.util.Map;
import java.util.TreeSet;
import java.util.regex.Matcher;
import java.util.regex.Pattern;
import java.util.stream.Stream;

/**
 * Tries what README.md says: its Java as one program with each answer that stands behind it, its commands, the numbers
 * and names of its tables, and that what it shows of cases stands in src/test/sentences so.
 */
public final class PressingPlantReadme {
    private static final String MAIN = "src/main/java/PressingPlant.java";
    private static final Path TESTS = Path.of("src/test/java");
    private static final Path CASES = Path.of("src/test/sentences");
    /** This test runs within it. */
    private static final String ALL_TESTS = ".ci/run";
    private static final Map<String, Integer> NAMES = Map.of("BAD", PressingPlant.BAD, "FULL", PressingPlant.FULL,
        "FINDING", PressingPlant.FINDING, "STATE", PressingPlant.STATE, "NONE", PressingPlant.NONE);
    private static final Pattern ANSWERED = Pattern.compile("(?:(?:int|long) (\\w+) = )?(x\\..*\\));\\s*// (-?\\d+|[A-Z]+)\\b.*");

    private static int wrong = 0;
    private static int tried = 0;

    private static void fault(String what) {
        wrong++;
        System.out.println("README.md: " + what);
    }

    private static void must(boolean holds, String what) {
        tried++;
        if (!holds) fault(what);
    }

    /** The blocks of a language, each with its lines. */
    private static List<String> blocks(String readme, String language) {
        List<String> blocks = new ArrayList<>();
        Matcher m = Pattern.compile("(?ms)^```" + language + "\n(.*?)^```$").matcher(readme);
        while (m.find()) blocks.add(m.group(1));
        return blocks;
    }

    /** The first columns of the table below a heading, row by row. */
    private static List<String> rows(String readme, String head) {
        List<String> rows = new ArrayList<>();
        int from = readme.indexOf("\n" + head + "\n");
        if (from < 0) {
            fault("no table: " + head);
            return rows;
        }
        String[] lines = readme.substring(from + 1).split("\n");
        for (int i = 2; i < lines.length && lines[i].startsWith("|"); i++) rows.add(lines[i]);
        return rows;
    }

    private static List<String> codes(String text) {
        List<String> codes = new ArrayList<>();
        Matcher m = Pattern.compile("`([^`]+)`").matcher(text.replaceAll("(?ms)^```.*?^```$", ""));
        while (m.find()) codes.add(m.group(1));
        return codes;
    }

    private static String column(String row, int i) {
        String[] columns = row.split(" *\\| *");
        return i + 1 < columns.length ? columns[i + 1] : "";
    }

    /** One line of an example as it stands there, and behind it a look at its answer. */
    private static String looked(String line) {
        String code = line.trim();
        Matcher m = ANSWERED.matcher(code);
        if (!m.matches()) {
            must(!code.contains("x.") || code.startsWith("for "), "an answer is missing: " + line);
            return line + "\n";
        }
        tried++;
        String due = NAMES.containsKey(m.group(3)) ? "PressingPlant." + m.group(3) : m.group(3);
        String told = m.group(2).replace("\\", "\\\\").replace("\"", "\\\"");
        String got = m.group(1) == null ? m.group(2) : m.group(1);
        String kept = m.group(1) == null ? "" : line + "\n";
        return kept + "due(\"" + told + "\", " + got + ", " + due + ");\n";
    }

    private static void examples(String readme, Path dir) throws IOException, InterruptedException {
        List<String> blocks = blocks(readme, "java");
        must(blocks.size() > 5, "examples are missing");
        StringBuilder body = new StringBuilder();
        for (String block : blocks) for (String line : block.split("\n")) body.append(looked(line));
        Files.writeString(dir.resolve("Examples.java"), "public final class Examples {\n"
            + "static int wrong = 0;\n"
            + "static void due(String call, long got, long want) {\n"
            + "if (got == want) return;\n"
            + "wrong++;\n"
            + "System.out.println(call + \" answered \" + got + \", there stands \" + want);\n"
            + "}\n"
            + "public static void main(String[] args) {\n" + body + "if (wrong != 0) System.exit(1);\n}\n}\n");
        String out = dir.resolve("examples").toString();
        shell("javac --release 17 -d '" + out + "' " + MAIN + " '" + dir.resolve("Examples.java") + "'\njava -cp '" + out + "' Examples");
    }

    private static void shell(String script) throws IOException, InterruptedException {
        File said = File.createTempFile("readme", ".txt");
        ProcessBuilder b = new ProcessBuilder("sh", "-eu", "-c", script).redirectErrorStream(true).redirectOutput(said);
        int code = b.start().waitFor();
        must(code == 0, "exit " + code + " of\n" + script + "\n" + Files.readString(said.toPath()));
        Files.delete(said.toPath());
    }

    private static void commands(String readme) throws IOException, InterruptedException {
        boolean all = false;
        for (String block : blocks(readme, "sh")) {
            if (block.trim().equals(ALL_TESTS)) all = true;
            else shell(block);
        }
        must(all && Files.isExecutable(Path.of(ALL_TESTS)), "does not tell how all tests are run");
    }

    /** The tables of answers, of findings and of what is told name what the class and the document have. */
    private static void answers(String readme, String doc) {
        List<String> answers = rows(readme, "| name | answer | what it means |");
        must(answers.size() == NAMES.size(), "answers: " + answers.size());
        for (String row : answers) {
            String name = codes(row).isEmpty() ? "" : codes(row).get(0);
            must(NAMES.containsKey(name) && column(row, 1).equals("" + NAMES.get(name)), "not so: " + row);
        }
        List<String> findings = rows(readme, "| finding | name | what it means |");
        must(findings.size() == 5, "findings: " + findings.size());
        for (String row : findings) must(doc.contains(column(row, 0) + " " + column(row, 1) + " ("), "not so: " + row);
        List<String> told = rows(readme, "| what is told | by which call | what it tells |");
        must(told.size() == 5, "what is told: " + told.size());
        String latest = "What the latest " + column(told.isEmpty() ? "" : told.get(0), 1).replace("`", "") + " that was not refused";
        must(doc.contains(latest), "not so: " + latest);
        for (String code : codes(readme)) {
            Matcher m = Pattern.compile("(\\w+)\\([a-z]?\\)").matcher(code);
            if (m.matches()) must(doc.contains(" " + m.group(1) + "("), "no such call: " + code);
        }
    }

    /** The classes and tests that it lists are those that there are. */
    private static void listed(String readme) throws IOException {
        TreeSet<String> classes = new TreeSet<>();
        Matcher m = Pattern.compile("private static final class (\\w+)").matcher(Files.readString(Path.of(MAIN)));
        while (m.find()) classes.add(m.group(1));
        TreeSet<String> tests = new TreeSet<>();
        try (DirectoryStream<Path> all = Files.newDirectoryStream(TESTS, "*.java")) {
            for (Path p : all) tests.add(p.getFileName().toString().replace(".java", ""));
        }
        must(classes.equals(firsts(readme, "| class | what it holds |")), "classes are " + classes);
        must(tests.equals(firsts(readme, "| test | what it tries |")), "tests are " + tests);
    }

    private static TreeSet<String> firsts(String readme, String head) {
        TreeSet<String> firsts = new TreeSet<>();
        for (String row : rows(readme, head)) firsts.addAll(codes(column(row, 0)));
        return firsts;
    }

    /** Cases and steps that it shows stand in the cases that are played. */
    private static void cases(String readme) throws IOException {
        StringBuilder played = new StringBuilder();
        try (DirectoryStream<Path> all = Files.newDirectoryStream(CASES, "*.txt")) {
            for (Path p : all) played.append(Files.readString(p));
        }
        List<String> shown = blocks(readme, "text");
        must(!shown.isEmpty(), "shows no case");
        for (String block : shown) must(played.indexOf(block) >= 0, "no such case:\n" + block);
        for (String step : firsts(readme, "| step | what it does |")) must(played.indexOf(step) >= 0, "no such step: " + step);
    }

    private static void remove(Path dir) throws IOException {
        List<Path> all;
        try (Stream<Path> walk = Files.walk(dir)) {
            all = walk.sorted(Comparator.reverseOrder()).toList();
        }
        for (Path p : all) Files.delete(p);
    }

    public static void main(String[] args) throws IOException, InterruptedException {
        String readme = Files.readString(Path.of("README.md"));
        String doc = Files.readString(Path.of("../shared/DOC.md"));
        Path dir = Files.createTempDirectory("readme");
        try {
            examples(readme, dir);
        } finally {
            remove(dir);
        }
        commands(readme);
        answers(readme, doc);
        listed(readme);
        cases(readme);
        System.out.println(wrong == 0 ? "README.md is right, " + tried + " things tried" : wrong + " faults");
        if (wrong != 0) System.exit(1);
    }
}
