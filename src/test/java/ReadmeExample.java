import java.lang.reflect.Method;
import java.nio.file.Files;
import java.nio.file.Path;
import java.util.List;
import java.util.regex.Matcher;
import java.util.regex.Pattern;

/** Makes the calls of README.md's example: the comment behind each begins with its answer. */
public final class ReadmeExample {
    private static final String FIRST = "SoftMaps x = new SoftMaps();";
    private static final Pattern CALL = Pattern.compile("x\\.(\\w+)\\((.*)\\); +// (true|false|-?\\d+)\\b.*");

    public static void main(String[] args) throws Exception {
        Checks c = new Checks();
        List<String> lines = Files.readAllLines(Path.of("README.md"));
        int first = lines.indexOf(FIRST);
        c.due("README.md has an example", first > 0, true);
        SoftMaps x = new SoftMaps();
        int calls = 0;
        for (int i = first + 1; i < lines.size() && !lines.get(i).startsWith("```"); i++) {
            oneLine(c, x, lines.get(i));
            calls++;
        }
        c.due("the example has calls", calls > 0, true);
        c.end();
    }

    private static void oneLine(Checks c, SoftMaps x, String line) throws Exception {
        Matcher call = CALL.matcher(line);
        boolean known = call.matches();
        c.due("\"" + line + "\" is a call with its answer", known, true);
        if (known) {
            Object got = answer(x, call.group(1), call.group(2).split(", "));
            c.due("\"" + line + "\" has the answer " + got + ", which", got.toString().equals(call.group(3)), true);
        }
    }

    private static Object answer(SoftMaps x, String name, String[] words) throws Exception {
        Object[] values = new Object[words.length];
        Class<?>[] types = new Class<?>[words.length];
        for (int i = 0; i < words.length; i++) {
            boolean flag = words[i].equals("true") || words[i].equals("false");
            types[i] = flag ? boolean.class : int.class;
            values[i] = flag ? (Object) Boolean.valueOf(words[i]) : (Object) Integer.valueOf(words[i]);
        }
        Method method = SoftMaps.class.getMethod(name, types);
        return method.invoke(x, values);
    }
}
