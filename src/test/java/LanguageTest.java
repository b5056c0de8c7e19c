import java.io.IOException;
import java.lang.reflect.Constructor;
import java.lang.reflect.Field;
import java.lang.reflect.Method;
import java.lang.reflect.Modifier;
import java.nio.file.Files;
import java.nio.file.Path;
import java.util.ArrayList;
import java.util.List;
import java.util.TreeSet;
import java.util.regex.Matcher;
import java.util.regex.Pattern;

/** What of LANGUAGE.md can be seen from the source and the compiled class. */
public final class LanguageTest {
    private static final String FACE = "person(3) told(2) as(2) turns(2) set(3) forget(0) deal(1) seed(1) safe(2) says(0) tries(1) "
        + "needs(1) worst(1) had(1) start(2) tells(1) keeps(1) behind(3) left(2) fee(0) fine(1) feed(3) trim(1) text(0) textTold(2) why(1) "
        + "sheet(3) mark(3) pour(1) reads(1) copy(5) lay(3) ask(2) item(2) rest(2) tell(1) check(1) keep(0) back(0) count(1)";
    private static final String CONSTANTS = "BAD NO FULL NONE NOTHING KIND INDEX SIZE";

    private static int wrong = 0;

    private static void want(boolean holds, String what) {
        if (!holds) {
            wrong++;
            System.out.println(what);
        }
    }

    public static void main(String[] args) throws IOException {
        String source = Files.readString(Path.of("src/main/java/MeanSafe.java"));
        face();
        classesInside();
        words(source);
        lengths(plainLines(source));
        System.out.println(wrong == 0 ? "the language is kept to" : wrong + " rules are broken");
        if (wrong != 0) System.exit(1);
    }

    private static void face() {
        TreeSet<String> methods = new TreeSet<>();
        for (Method m : MeanSafe.class.getDeclaredMethods()) {
            if (Modifier.isPrivate(m.getModifiers())) continue;
            want(m.getReturnType() == int.class && m.getModifiers() == Modifier.PUBLIC, "rule 1: " + m);
            methods.add(m.getName() + "(" + m.getParameterCount() + ")");
            for (Class<?> p : m.getParameterTypes()) want(p == int.class, "rule 1: " + m);
        }
        want(methods.equals(new TreeSet<>(List.of(FACE.split(" ")))), "rule 1: the methods are " + methods);
        TreeSet<String> fields = new TreeSet<>();
        for (Field f : MeanSafe.class.getDeclaredFields()) {
            if (Modifier.isPrivate(f.getModifiers())) continue;
            fields.add(f.getName());
            want(f.getModifiers() == (Modifier.PUBLIC | Modifier.STATIC | Modifier.FINAL) && f.getType() == int.class, "rule 1: " + f);
        }
        want(fields.equals(new TreeSet<>(List.of(CONSTANTS.split(" ")))), "rule 1: the constants are " + fields);
        Constructor<?>[] made = MeanSafe.class.getDeclaredConstructors();
        want(made.length == 1 && made[0].getParameterCount() == 0 && Modifier.isPublic(made[0].getModifiers()), "rule 1: the constructor");
        want(MeanSafe.class.getModifiers() == (Modifier.PUBLIC | Modifier.FINAL), "rule 1: public final");
    }

    private static void classesInside() {
        List<Class<?>> all = new ArrayList<>(List.of(MeanSafe.class.getDeclaredClasses()));
        want(all.size() <= 12, "rule 11: classes");
        for (Class<?> c : all) want(Modifier.isStatic(c.getModifiers()), "rule 2: " + c);
        all.add(MeanSafe.class);
        for (Class<?> c : all) {
            int fields = 0;
            for (Field f : c.getDeclaredFields()) {
                if (!Modifier.isStatic(f.getModifiers())) fields++;
                else want(Modifier.isFinal(f.getModifiers()), "rule 5: " + f);
            }
            want(fields <= 20, "rule 11: fields of " + c);
            for (Method m : c.getDeclaredMethods()) {
                want(m.getParameterCount() <= 7, "rule 11: " + m);
                want(c == MeanSafe.class && Modifier.isPublic(m.getModifiers()) || !(" " + FACE).contains(" " + m.getName() + "("), "rule 1: " + m);
            }
        }
    }

    private static String bare(String source) {
        return source.replaceAll("(?s)/\\*.*?\\*/", "").replaceAll("//[^\n]*", "").replaceAll("\"[^\"\n]*\"", "\"\"").replaceAll("'[^\n]'", "' '");
    }

    private static void words(String source) {
        String bare = bare(source);
        for (String w : List.of("throw", "throws", "try", "catch", "finally", "synchronized", "assert", "import", "package", "double", "float",
                "Object", "Exception", "var", "native", "transient", "volatile", "record", "sealed", "protected")) {
            want(!Pattern.compile("\\b" + w + "\\b").matcher(bare).find(), "a word that is not to stand there: " + w);
        }
        want(!bare.contains("->") && !bare.contains("::"), "rule 2: no lambda, no method reference");
        want(!bare.contains("Exact("), "rule 4: Exact");
        Matcher library = Pattern.compile("\\b(Math|Integer|Long|System|Arrays|String|Character)\\.(\\w+)").matcher(bare);
        List<String> fine = List.of("max", "min", "abs", "compare", "floorMod", "floorDiv", "bitCount", "arraycopy");
        while (library.find()) want(fine.contains(library.group(2)), "rule 4: " + library.group());
        for (char c : source.toCharArray()) want(c < 128, "rule 4: a sign above 127");
    }

    private static String[] plainLines(String source) {
        return bare(source).split("\n");
    }

    // A method's head is a line with four or eight blanks ahead and ( .. ) {, its end a } as far in.
    private static void lengths(String[] lines) {
        for (int i = 0; i < lines.length; i++) {
            Matcher head = Pattern.compile("^( {4}| {8})(?!new|return|if|for|while|switch|else|do)\\w.*\\(.*").matcher(lines[i]);
            if (!head.matches() || lines[i].endsWith(";")) continue;
            String end = head.group(1) + "}";
            for (int j = i + 1; j < lines.length; j++) {
                if (lines[j].equals(end)) {
                    want(j - i <= 60, "rule 11: long: " + lines[i].trim());
                    break;
                }
            }
        }
    }
}
