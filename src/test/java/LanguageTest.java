import java.nio.file.Files;
import java.nio.file.Path;
import java.util.regex.Matcher;
import java.util.regex.Pattern;

/** What of LANGUAGE.md the source itself can tell; it is run in the project's folder. */
public final class LanguageTest {
    private static final Due due = new Due();

    private static final String[] RULED_OUT = {
        "package", "import", "throw", "throws", "try", "catch", "finally", "synchronized", "assert", "var", "record",
        "interface", "extends", "implements", "protected", "volatile", "transient", "native", "float", "double",
        "Object", "Exception", "Thread", "Random", "Class", "System\\.(?!arraycopy\\()", "\\w+Exact", "equals",
        "hashCode", "toString", "->", "::", "yield"};

    public static void main(String[] args) throws Exception {
        String source = Files.readString(Path.of("src/main/java/GarbleWords.java"));
        String code = source.replaceAll("(?s)/\\*.*?\\*/", "").replaceAll("//[^\n]*", "");
        for (String word : RULED_OUT) {
            String whole = word.matches("\\w+") ? "\\b" + word + "\\b" : word;
            Matcher found = Pattern.compile(whole).matcher(code);
            due.is("no " + word, found.find() ? 1 : 0, 0);
        }
        for (int i = 0; i < source.length(); i++) {
            if (source.charAt(i) > 126 || source.charAt(i) < 32 && source.charAt(i) != '\n') {
                due.is("only plain signs, at " + i, source.charAt(i), ' ');
            }
        }
        staticFields(code);
        methodLengths(code);
        due.end();
    }

    private static void staticFields(String code) {
        Matcher field = Pattern.compile("\\bstatic\\s+(?!final)[\\w\\[\\]]+\\s+\\w+\\s*[=;]").matcher(code);
        due.is("static fields are final", field.find() ? 1 : 0, 0);
        Matcher block = Pattern.compile("\\bstatic\\s*\\{").matcher(code);
        due.is("no static initialiser", block.find() ? 1 : 0, 0);
    }

    private static void methodLengths(String code) {
        int start = -1;
        String[] lines = code.split("\n");
        for (int i = 0; i < lines.length; i++) {
            boolean isHead = lines[i].matches(" {4,8}(public|private|static|boolean|void|int|long).*\\) \\{");
            start = isHead ? i : start;
            if (start >= 0 && lines[i].matches(" {4,8}}")) {
                due.is("short: " + lines[start].trim(), i - start < 60 ? 1 : 0, 1);
                start = -1;
            }
        }
    }
}
