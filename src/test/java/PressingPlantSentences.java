import java.io.IOException;
import java.lang.reflect.InvocationTargetException;
import java.lang.reflect.Method;
import java.nio.file.DirectoryStream;
import java.nio.file.Files;
import java.nio.file.Path;
import java.util.ArrayList;
import java.util.Arrays;
import java.util.HashMap;
import java.util.List;
import java.util.Map;
import java.util.TreeMap;
import java.util.TreeSet;
import java.util.regex.Matcher;
import java.util.regex.Pattern;

/**
 * Plays the cases of src/test/sentences: each quotes a sentence of ../shared/DOC.md by its promise's number and
 * says which calls show it. A sentence without a case, and a quote that does not stand in the document, are
 * faults, too. README.md says how a case is written.
 */
public final class PressingPlantSentences {
    private static final Path CASES = Path.of("src/test/sentences");
    private static final Path DOC = Path.of("../shared/DOC.md");
    private static final int PROMISES = 52;
    /** What a plant answers behind so many calls is free, so no case may lean on it. */
    private static final int MOST_CALLS = 512;
    private static final List<String> FINDINGS = List.of("", "NOTHING", "BEYOND", "UNLIKE", "NOUGHT", "SIZE");
    private static final int FINDING = -3;
    private static final Map<String, Integer> NAMES = Map.of("BAD", -1, "FULL", -2, "STATE", -4, "NONE", -9,
        "MIN", Integer.MIN_VALUE, "MAX", Integer.MAX_VALUE, "true", 1, "false", 0);
    private static final Map<String, Method> METHODS = methods();
    private static final Pattern STEP = Pattern.compile("(\\w+)\\(([^()]*)\\)\\s*(?:(=|!|asks|pays|of)\\s*(.+))?");

    private static int wrong = 0;
    private static int checks = 0;

    private record Call(Method method, List<Integer> numbers) {
        @Override
        public String toString() {
            return method.getName() + numbers.toString().replace('[', '(').replace(']', ')');
        }
    }

    private record Case(String at, boolean ofTerms, List<Integer> promises, String quote, List<String> lines) { }

    private static Map<String, Method> methods() {
        Map<String, Method> methods = new HashMap<>();
        for (Method m : PressingPlant.class.getMethods()) {
            if (m.getDeclaringClass() == PressingPlant.class) methods.put(m.getName(), m);
        }
        return methods;
    }

    private static void fault(String at, String what) {
        wrong++;
        System.out.println(at + ": " + what);
    }

    /** A plant with all calls that were made on it. */
    private static final class Plant {
        final PressingPlant x = new PressingPlant();
        final List<Call> past = new ArrayList<>();

        long answer(Call c) {
            past.add(c);
            if (past.size() > MOST_CALLS) throw new IllegalStateException("more than " + MOST_CALLS + " calls on a plant");
            Class<?>[] types = c.method.getParameterTypes();
            if (types.length != c.numbers.size()) throw new IllegalStateException("so many numbers are not due: " + c);
            Object[] arguments = new Object[types.length];
            for (int i = 0; i < types.length; i++) {
                int v = c.numbers.get(i);
                arguments[i] = types[i] == boolean.class ? (Object) (v != 0) : (Object) v;
            }
            try {
                return ((Number) c.method.invoke(x, arguments)).longValue();
            } catch (InvocationTargetException e) {
                throw new IllegalStateException(c + " threw " + e.getCause(), e);
            } catch (IllegalAccessException e) {
                throw new IllegalStateException(e);
            }
        }

        static Plant again(List<Call> calls) {
            Plant p = new Plant();
            for (Call c : calls) p.answer(c);
            return p;
        }
    }

    /** One case as it is played; a mark at each fault tells the promise and the line. */
    private static final class Play {
        final Map<String, List<String>> setups;
        final Case played;
        Plant plant = new Plant();
        String at = "";

        Play(Case played, Map<String, List<String>> setups) {
            this.played = played;
            this.setups = setups;
        }

        void go() {
            int before = checks;
            try {
                for (String line : played.lines) line(line, Map.of());
            } catch (IllegalStateException e) {
                fault(at, e.getMessage());
            }
            if (checks == before) fault(played.at, "looks at nothing");
        }

        void line(String line, Map<String, Integer> values) {
            at = played.at + (played.ofTerms ? " terms " : " promise ") + played.promises + ", '" + line.trim() + "'"
                + (values.isEmpty() ? "" : " with " + values);
            Matcher loop = Pattern.compile("for (\\w) in ([^:]+): (.+)").matcher(line.trim());
            if (loop.matches()) {
                for (int v : list(loop.group(2), values)) {
                    Map<String, Integer> with = new HashMap<>(values);
                    with.put(loop.group(1), v);
                    line(loop.group(3), with);
                }
            } else {
                for (String step : steps(line)) step(step, values);
            }
        }

        static List<String> steps(String line) {
            return Arrays.asList(line.trim().split("\\s*;\\s*(?=(?:[^\"]*\"[^\"]*\")*[^\"]*$)"));
        }

        void step(String step, Map<String, Integer> values) {
            if (step.equals("new")) {
                plant = new Plant();
            } else if (step.startsWith("use ")) {
                use(step.substring(4));
            } else if (step.startsWith("write(")) {
                Matcher m = Pattern.compile("write\\((\\w+), \"([^\"]*)\"\\)").matcher(step);
                if (!m.matches()) throw new IllegalStateException("can't be read: " + step);
                write(number(m.group(1), values), m.group(2));
            } else if (step.startsWith("fault of ")) {
                Matcher m = Pattern.compile("fault of \"([^\"]*)\" = (\\w+)").matcher(step);
                if (!m.matches()) throw new IllegalStateException("can't be read: " + step);
                write(1, m.group(1));
                due(call("fault", 1), value(m.group(2), values));
            } else if (step.startsWith("rule \"")) {
                Matcher m = Pattern.compile("rule \"([^\"]*)\" from ([^=\\s]+)(?: = (.+))?").matcher(step);
                if (!m.matches()) throw new IllegalStateException("can't be read: " + step);
                write(3, m.group(1));
                one(call("rule", 3, number(m.group(2), values)), m.group(3) == null ? "" : "=", m.group(3), values);
            } else if (step.startsWith("fill ") || step.startsWith("holds ")) {
                places(step, values);
            } else if (step.matches("[A-Z]+ = \\S+")) {
                constant(step.split(" = ")[0], number(step.split(" = ")[1], values));
            } else {
                calls(step, values);
            }
        }

        void use(String name) {
            List<String> lines = setups.get(name);
            if (lines == null) throw new IllegalStateException("no such setup: " + name);
            String where = at;
            for (String line : lines) line(line, Map.of());
            at = where;
        }

        void constant(String name, int due) {
            checks++;
            try {
                int got = PressingPlant.class.getField(name).getInt(null);
                if (got != due) fault(at, name + " is " + got + ", due is " + due);
            } catch (ReflectiveOperationException e) {
                throw new IllegalStateException("no such constant: " + name, e);
            }
        }

        void write(int t, String text) {
            due(call("text", t, text.length()), text.length());
            for (int i = 0; i < text.length(); i++) due(call("put", t, i, text.charAt(i)), 1032);
        }

        /** 'fill 0: 4 5' makes a row of these; 'holds 0: 4 5' looks at its places one by one. */
        void places(String step, Map<String, Integer> values) {
            int r = number(step.substring(step.indexOf(' ') + 1, step.indexOf(':')), values);
            List<Integer> due = list(step.substring(step.indexOf(':') + 1), values);
            boolean fills = step.startsWith("fill ");
            if (fills) due(call("row", r, due.size()), due.size());
            for (int i = 0; i < due.size(); i++) {
                due(call("lay", r, i, due.get(i)), 1);
                if (!fills) due(call("asked"), due.get(i));
            }
        }

        void calls(String step, Map<String, Integer> values) {
            Matcher m = STEP.matcher(step);
            if (!m.matches() || !METHODS.containsKey(m.group(1))) throw new IllegalStateException("can't be read: " + step);
            String how = m.group(3) == null ? "" : m.group(3);
            if (how.equals("of")) {
                due(call("digest"), digest(list(m.group(4), values)));
            } else if (m.group(2).contains("?")) {
                List<Integer> due = list(m.group(4), values);
                for (int i = 0; i < due.size(); i++) {
                    one(call(m.group(1), numbers(m.group(2).replace("?", "" + i), values)), how, "" + due.get(i), values);
                }
            } else {
                one(call(m.group(1), numbers(m.group(2), values)), how, m.group(4), values);
            }
        }

        /** What no answer is given for must not be refused. */
        void one(Call c, String how, String due, Map<String, Integer> values) {
            switch (how) {
                case "=" -> due(c, value(due, values));
                case "asks" -> {
                    due(c, 1);
                    due(call("asked"), number(due, values));
                }
                case "pays" -> {
                    due(c, 1);
                    due(call("pence"), value(due, values));
                }
                case "!" -> changesNothing(c, due, values);
                default -> {
                    long got = plant.answer(c);
                    if (got < 0 && c.method.getReturnType() == int.class) fault(at, c + " answered " + got);
                }
            }
        }

        void due(Call c, long due) {
            checks++;
            long got = plant.answer(c);
            if (got != due) fault(at, c + " answered " + got + ", due is " + due);
        }

        /** The plant with this call must tell all that a plant without it tells, but for a finding. */
        void changesNothing(Call c, String due, Map<String, Integer> values) {
            int finding = Math.max(0, FINDINGS.indexOf(due));
            Plant without = Plant.again(plant.past);
            due(c, finding > 0 ? FINDING : number(due, values));
            Plant with = Plant.again(plant.past);
            for (Call probe : PROBES) {
                if (with.past.size() >= MOST_CALLS) break;
                long was = without.answer(probe);
                long got = with.answer(probe);
                if (finding > 0 && probe.toString().equals("finding()")) was = finding;
                if (finding > 0 && probe.toString().equals("findings(" + finding + ")")) was++;
                checks++;
                if (got != was) fault(at, "behind " + c + " " + probe + " answered " + got + ", due is " + was);
            }
        }
    }

    /** Calls that tell, all together, whatever a plant can tell without being changed. */
    private static final List<Call> PROBES = probes();

    private static List<Call> probes() {
        List<Call> probes = new ArrayList<>();
        for (String name : List.of("finding", "asked", "upper", "lower", "pence", "digest")) probes.add(call(name));
        for (int f = 1; f <= 5; f++) probes.add(call("findings", f));
        for (int i = 0; i < 18; i++) probes.add(call("causeTold", i / 6, i % 6));
        for (int i = 0; i < 9; i++) probes.add(call("planned", i));
        for (String name : List.of("force", "why")) {
            for (int g = 0; g < 16; g++) probes.add(call(name, 0, g / 4, g % 4, 999, 999));
            for (int land = 0; land < 8; land++) probes.add(call(name, 2, land, 0, 999, 999));
            for (int land = 0; land < 8; land++) probes.add(call(name, 3, land, 0, 999, 999));
            probes.add(call(name, 1, 0, 0, 999, 999));
        }
        for (int i = 0; i < 60; i++) probes.add(call("swish", i / 2, i % 2));
        for (int m = 0; m < 40; m++) probes.add(call("asOf", m, 0));
        return probes;
    }

    private static Call call(String name, int... numbers) {
        List<Integer> all = new ArrayList<>();
        for (int n : numbers) all.add(n);
        return new Call(METHODS.get(name), all);
    }

    private static int[] numbers(String text, Map<String, Integer> values) {
        if (text.isBlank()) return new int[0];
        String[] parts = text.split(",");
        int[] numbers = new int[parts.length];
        for (int i = 0; i < parts.length; i++) numbers[i] = number(parts[i].trim(), values);
        return numbers;
    }

    private static int number(String text, Map<String, Integer> values) {
        long v = value(text, values);
        if (v != (int) v) throw new IllegalStateException("no int: " + text);
        return (int) v;
    }

    /** Numbers and names with + - * between them. */
    private static long value(String text, Map<String, Integer> values) {
        long sum = 0;
        for (String term : text.trim().replaceAll("\\s+", "").split("(?<=[\\w])(?=[+-])")) {
            long product = term.startsWith("-") ? -1 : 1;
            for (String factor : term.replaceFirst("^[+-]", "").split("\\*")) product *= single(factor, values);
            sum += product;
        }
        return sum;
    }

    private static long single(String factor, Map<String, Integer> values) {
        if (values.containsKey(factor)) return values.get(factor);
        if (NAMES.containsKey(factor)) return NAMES.get(factor);
        if (!factor.matches("\\d+")) throw new IllegalStateException("no number: " + factor);
        return Long.parseLong(factor);
    }

    /** Numbers with blanks between: '4 6..9' has 4, 6, 7, 8, 9; '(1 2)x3' has 1, 2 three times, and what stands in brackets may have such in it. */
    private static List<Integer> list(String text, Map<String, Integer> values) {
        String flat = text;
        Pattern group = Pattern.compile("\\(([^()]*)\\)x(\\d+)");
        for (Matcher m = group.matcher(flat); m.find(); m = group.matcher(flat)) {
            flat = m.replaceFirst((m.group(1) + " ").repeat(Integer.parseInt(m.group(2))));
        }
        List<Integer> all = new ArrayList<>();
        for (String part : flat.trim().split("\\s+")) {
            int dots = part.indexOf("..");
            if (part.isEmpty()) continue;
            int first = number(dots < 0 ? part : part.substring(0, dots), values);
            int last = dots < 0 ? first : number(part.substring(dots + 2), values);
            for (long v = first; v <= last; v++) all.add((int) v);
        }
        return all;
    }

    private static long digest(List<Integer> values) {
        long h = 17;
        for (int v : values) h = 31 * h + v;
        return h;
    }

    /** Reads all files: setups by their names, and the cases. */
    private static List<Case> read(Map<String, List<String>> setups) throws IOException {
        List<Case> cases = new ArrayList<>();
        TreeSet<Path> files = new TreeSet<>();
        try (DirectoryStream<Path> all = Files.newDirectoryStream(CASES, "*.txt")) {
            for (Path file : all) files.add(file);
        }
        Pattern head = Pattern.compile("(promise|terms) ([\\d, ]+) \"(.+)\"");
        for (Path file : files) {
            List<String> body = null;
            List<String> lines = Files.readAllLines(file);
            for (int i = 0; i < lines.size(); i++) {
                String line = lines.get(i);
                String at = file.getFileName() + ":" + (i + 1);
                Matcher m = head.matcher(line);
                if (line.isBlank() || line.trim().startsWith("#")) continue;
                if (line.startsWith(" ") && body != null) {
                    body.add(line);
                } else if (line.startsWith("setup ")) {
                    body = new ArrayList<>();
                    if (setups.put(line.substring(6), body) != null) fault(at, "this setup is there already");
                } else if (m.matches()) {
                    body = new ArrayList<>();
                    List<Integer> promises = list(m.group(2).replace(',', ' '), Map.of());
                    cases.add(new Case(at, m.group(1).equals("terms"), promises, m.group(3), body));
                } else {
                    fault(at, "can't be read: " + line);
                }
            }
        }
        return cases;
    }

    /** The document's text with the marks of its form left out; 0 has the terms, others a promise each. */
    private static Map<Integer, String> document() throws IOException {
        String doc = Files.readString(DOC).replaceAll("```\\w*", " ").replaceAll("======== \\d+ ", " ").replaceAll("\\s+", " ");
        Map<Integer, String> texts = new TreeMap<>();
        Matcher terms = Pattern.compile("## Terms (.*?) Ahead of the calls ").matcher(doc);
        if (terms.find()) texts.put(0, terms.group(1));
        Matcher m = Pattern.compile("## Promise (\\d+): .*?`: (.*?) (?=## )").matcher(doc);
        while (m.find()) texts.put(Integer.parseInt(m.group(1)), m.group(2));
        if (texts.size() != PROMISES + 1) fault(DOC.toString(), "has " + texts.size() + " parts");
        return texts;
    }

    private static void quotes(List<Case> cases, Map<Integer, String> texts) {
        Map<Integer, boolean[]> quoted = new TreeMap<>();
        for (int n : texts.keySet()) quoted.put(n, new boolean[texts.get(n).length()]);
        for (Case c : cases) {
            for (int p : c.promises) if (p < 1 || p > PROMISES) fault(c.at, "no promise: " + p);
            int n = c.ofTerms ? 0 : c.promises.get(0);
            int from = texts.getOrDefault(n, "").indexOf(c.quote);
            if (from < 0) fault(c.at, "not in the document: " + c.quote);
            else Arrays.fill(quoted.get(n), from, from + c.quote.length(), true);
        }
        for (int n : texts.keySet()) {
            StringBuilder left = new StringBuilder();
            for (int i = 0; i < texts.get(n).length(); i++) {
                left.append(quoted.get(n)[i] || !Character.isLetterOrDigit(texts.get(n).charAt(i)) ? ' ' : texts.get(n).charAt(i));
            }
            if (!left.toString().isBlank()) fault(n == 0 ? "terms" : "promise " + n, "no case for: " + left.toString().trim().replaceAll("\\s+", " "));
        }
    }

    public static void main(String[] args) throws IOException {
        Map<String, List<String>> setups = new HashMap<>();
        List<Case> cases = read(setups);
        quotes(cases, document());
        for (Case c : cases) new Play(c, setups).go();
        System.out.println(wrong == 0 ? cases.size() + " sentences hold, " + checks + " answers looked at" : wrong + " faults");
        if (wrong != 0) System.exit(1);
    }
}
