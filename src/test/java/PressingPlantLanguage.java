import java.lang.reflect.Constructor;
import java.lang.reflect.Field;
import java.lang.reflect.Method;
import java.lang.reflect.Modifier;
import java.nio.file.Files;
import java.nio.file.Path;
import java.util.ArrayList;
import java.util.List;
import java.util.Set;
import java.util.TreeSet;
import java.util.regex.Matcher;
import java.util.regex.Pattern;

/** The rules of ../shared/LANGUAGE.md that a program can look at, and the face of ../shared/DOC.md. */
public final class PressingPlantLanguage {
    private static int wrong = 0;

    private static void fault(String what) {
        wrong++;
        System.out.println(what);
    }

    private static String signature(Class<?> type, String name, Class<?>[] parameters) {
        StringBuilder b = new StringBuilder(type.getSimpleName() + " " + name + "(");
        for (int i = 0; i < parameters.length; i++) b.append(i == 0 ? "" : ", ").append(parameters[i].getSimpleName());
        return b.append(")").toString();
    }

    /** Rule 1: the face is the document's, with nothing beside it. */
    private static void face(String doc) {
        Set<String> due = new TreeSet<>();
        Matcher m = Pattern.compile("public (int|long) (\\w+)\\(([^)]*)\\);").matcher(doc);
        while (m.find()) due.add(m.group(1) + " " + m.group(2) + "(" + m.group(3).replaceAll(" \\w+(?=,|$)", "") + ")");
        if (due.size() != 51) fault("the document's face has " + due.size() + " methods");
        Set<String> got = new TreeSet<>();
        for (Method method : PressingPlant.class.getDeclaredMethods()) {
            int is = method.getModifiers();
            if (Modifier.isPrivate(is)) continue;
            if (!Modifier.isPublic(is) || Modifier.isStatic(is)) fault("not of the face: " + method);
            got.add(signature(method.getReturnType(), method.getName(), method.getParameterTypes()));
        }
        for (String s : due) if (!got.contains(s)) fault("missing: " + s);
        for (String s : got) if (!due.contains(s)) fault("beside the face: " + s);
        for (Constructor<?> c : PressingPlant.class.getDeclaredConstructors()) {
            if (!Modifier.isPublic(c.getModifiers()) || c.getParameterCount() != 0) fault("not of the face: " + c);
        }
        Set<String> constants = new TreeSet<>();
        for (Field f : PressingPlant.class.getDeclaredFields()) {
            if (!Modifier.isPrivate(f.getModifiers())) constants.add(f.getName());
        }
        if (!constants.equals(Set.of("BAD", "FULL", "FINDING", "STATE", "NONE"))) fault("constants: " + constants);
        if (!Modifier.isFinal(PressingPlant.class.getModifiers())) fault("the class is not final");
    }

    /** Rules 1, 2, 5, 11 of each class. */
    private static void classes() {
        Set<String> publicNames = new TreeSet<>();
        for (Method m : PressingPlant.class.getDeclaredMethods()) if (Modifier.isPublic(m.getModifiers())) publicNames.add(m.getName());
        List<Class<?>> all = new ArrayList<>(List.of(PressingPlant.class.getDeclaredClasses()));
        for (Class<?> c : all) {
            int is = c.getModifiers();
            if (!Modifier.isStatic(is) || Modifier.isPublic(is) || Modifier.isProtected(is)) fault("visible or not static: " + c);
        }
        all.add(PressingPlant.class);
        if (all.size() > 12) fault("classes: " + all.size());
        for (Class<?> c : all) {
            for (Method m : c.getDeclaredMethods()) {
                if (m.isSynthetic()) fault("made by the compiler: " + m);
                boolean hidden = c != PressingPlant.class || Modifier.isPrivate(m.getModifiers());
                if (hidden && publicNames.contains(m.getName())) fault("bears a public name: " + m);
                if (m.getParameterCount() > 7) fault("takes more than seven: " + m);
            }
            int fields = 0;
            for (Field f : c.getDeclaredFields()) {
                boolean isStatic = Modifier.isStatic(f.getModifiers());
                if (isStatic && !Modifier.isFinal(f.getModifiers())) fault("static state: " + f);
                if (!isStatic) fields++;
            }
            if (fields > 20) fault(c + " has " + fields + " fields");
        }
    }

    private static String bare(String source) {
        return source.replaceAll("(?s)/\\*.*?\\*/", "").replaceAll("//[^\n]*", "");
    }

    /** Rules 2, 3, 4, 6: words that may not stand there. */
    private static void words(String source) {
        String code = bare(source);
        String[] never = {"\\bthrow\\b", "\\bthrows\\b", "\\btry\\b", "\\bcatch\\b", "\\bfinally\\b", "\\bsynchronized\\b", "\\bassert\\b",
            "->", "::", "\\bimport\\b", "\\bpackage\\b", "\\bprotected\\b", "\\bObject\\b", "Exact\\b", "\\bhashCode\\b",
            "\\btoString\\b", "@", "\"", "\\bvolatile\\b", "\\bnative\\b", "\\bthread", "\\[\\]\\s*\\[\\]", "\\bdouble\\b", "\\bfloat\\b"};
        for (String n : never) {
            Matcher m = Pattern.compile(n, Pattern.CASE_INSENSITIVE).matcher(code);
            if (m.find()) fault("stands there: " + m.group());
        }
        Matcher library = Pattern.compile("\\b(System|Math|Long|Integer|Arrays)\\.(\\w+)").matcher(code);
        Set<String> may = Set.of("System.arraycopy", "Math.max", "Math.min", "Math.abs", "Long.bitCount", "Integer.bitCount");
        while (library.find()) if (!may.contains(library.group())) fault("of the library: " + library.group());
        if (code.contains("while")) fault("a loop whose end its own lines may not show: while");
        for (int i = 0; i < source.length(); i++) if (source.charAt(i) > 126) fault("a sign beyond 126 at " + i);
    }

    /** Rule 11: methods stay short. */
    private static void lengths(String source) {
        String[] lines = source.split("\n");
        for (int i = 0; i < lines.length; i++) {
            if (!lines[i].matches(" {4}( {4})?[a-z][\\w\\[\\] ]*\\(.*\\) \\{")) continue;
            String end = lines[i].replaceAll("\\S.*", "") + "}";
            int j = i;
            while (j < lines.length && !lines[j].equals(end)) j++;
            if (j - i > 40) fault("long: " + lines[i].trim() + " " + (j - i));
        }
        for (int i = 0; i < lines.length; i++) if (lines[i].length() > 130) fault("line " + (i + 1) + " is wide");
    }

    public static void main(String[] args) throws Exception {
        String source = Files.readString(Path.of("src/main/java/PressingPlant.java"));
        face(Files.readString(Path.of("../shared/DOC.md")));
        classes();
        words(source);
        lengths(source);
        System.out.println(wrong == 0 ? "the rules are kept" : wrong + " faults");
        if (wrong != 0) System.exit(1);
    }
}
