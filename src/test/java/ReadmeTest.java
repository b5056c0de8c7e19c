import java.io.IOException;
import java.lang.reflect.Method;
import java.lang.reflect.Modifier;
import java.nio.file.Files;
import java.nio.file.Path;
import java.util.regex.Matcher;
import java.util.regex.Pattern;

/** What README.md tells of the class holds: each call in it has the answer behind its //. */
public final class ReadmeTest {
    private static final Pattern CALL = Pattern.compile("^x\\.(\\w+)\\(([^)]*)\\); *// (-?\\d+|[A-Z]+)\\b.*$");

    private static int wrong = 0;
    private static int asked = 0;

    public static void main(String[] args) throws IOException, ReflectiveOperationException {
        String page = Files.readString(Path.of("README.md"));
        MeanSafe x = null;
        for (String line : page.split("\n")) {
            if (line.startsWith("MeanSafe x = new MeanSafe();")) x = new MeanSafe();
            else if (line.startsWith("x.")) call(x, line);
        }
        want(asked > 0, "there are no calls");
        for (Method m : MeanSafe.class.getDeclaredMethods()) {
            if (Modifier.isPublic(m.getModifiers())) want(page.contains("`" + m.getName() + "`"), m.getName() + " is not named");
        }
        System.out.println(wrong == 0 ? "README.md: " + asked + " answers, all as told" : wrong + " things are not as told");
        if (wrong != 0) System.exit(1);
    }

    private static void call(MeanSafe x, String line) throws ReflectiveOperationException {
        Matcher m = CALL.matcher(line);
        if (x == null || !m.matches()) {
            want(false, "no call with its answer: " + line);
            return;
        }
        String[] words = m.group(2).isEmpty() ? new String[0] : m.group(2).split(", *");
        Class<?>[] types = new Class<?>[words.length];
        Object[] values = new Object[words.length];
        for (int i = 0; i < words.length; i++) {
            types[i] = int.class;
            values[i] = Integer.decode(words[i]);
        }
        asked++;
        int got = (Integer) MeanSafe.class.getMethod(m.group(1), types).invoke(x, values);
        want(got == answer(m.group(3)), line + " answered " + got);
    }

    private static int answer(String told) throws ReflectiveOperationException {
        boolean named = Character.isLetter(told.charAt(0));
        return named ? MeanSafe.class.getField(told).getInt(null) : Integer.parseInt(told);
    }

    private static void want(boolean holds, String what) {
        if (!holds) {
            wrong++;
            System.out.println(what);
        }
    }
}
