import java.nio.file.Files;
import java.nio.file.Path;
import java.util.List;
import java.util.regex.Matcher;
import java.util.regex.Pattern;

/** The rules of LANGUAGE.md that can be read off the words of the source; comments and texts are left out. */
public final class Language {
    private static final Path FILE = Path.of("src/main/java/SoftMaps.java");
    private static final List<String> NEVER = List.of("package", "synchronized", "assert", "finally", "volatile",
        "transient", "native", "protected", "throws", "Object", "Throwable", "Exception", "Error",
        "NullPointerException", "ClassCastException", "ArrayIndexOutOfBoundsException", "ArrayStoreException",
        "NegativeArraySizeException", "System\\.out", "System\\.err", "Thread", "Random", "nanoTime",
        "currentTimeMillis", "hashCode", "toString", "getClass", "\\w+Exact");
    private static final Pattern METHOD = Pattern.compile(
        "^( {4}| {8})(?:(?:public|private|static|final) )*[\\w\\[\\]]+ ?\\w*\\(([^)]*)\\) \\{$");

    public static void main(String[] args) throws Exception {
        Checks c = new Checks();
        String source = withoutComments(Files.readString(FILE));
        neverThere(c, source);
        oneClass(c, source);
        methods(c, source.split("\n"));
        c.end();
    }

    private static String withoutComments(String source) {
        return source.replaceAll("(?s)/\\*.*?\\*/", "").replaceAll("//[^\n]*", "").replaceAll("\"[^\"\n]*\"", "\"\"");
    }

    private static void neverThere(Checks c, String source) {
        for (String word : NEVER) {
            Matcher found = Pattern.compile("\\b" + word + "\\b").matcher(source);
            c.due("the source has " + word, found.find(), false);
        }
        c.due("the source has a lambda", source.contains("->"), false);
        c.due("the source has a method reference", source.contains("::"), false);
        c.due("the source has a static block", source.contains("static {"), false);
        // Without a divisor none can be 0: the class does with shifts and masks.
        c.due("the source divides", Pattern.compile("[/%]").matcher(source).find(), false);
        c.due("the source has other signs than ASCII", source.chars().anyMatch(sign -> sign > 126), false);
    }

    private static void oneClass(Checks c, String source) {
        Matcher top = Pattern.compile("(?m)^[a-z].*\\b(class|interface|enum|record)\\b.*$").matcher(source);
        c.due("there is a class", top.find(), true);
        c.due("it is public and final", top.group().equals("public final class SoftMaps {"), true);
        c.due("there is another beside it", top.find(), false);
        c.due("the first line is the class's", source.strip().startsWith("public final class SoftMaps {"), true);
    }

    private static void methods(Checks c, String[] lines) {
        int methods = 0;
        for (int i = 0; i < lines.length; i++) {
            Matcher head = METHOD.matcher(lines[i]);
            if (!head.matches()) {
                continue;
            }
            methods++;
            String end = head.group(1) + "}";
            int length = 1;
            while (i + length < lines.length && !lines[i + length].equals(end)) {
                length++;
            }
            c.due(lines[i].strip() + " is short", length <= 60, true);
            c.due(lines[i].strip() + " has few parameters", head.group(2).split(",").length <= 7, true);
        }
        c.due("the methods of the face are seen", methods >= 12, true);
    }
}
