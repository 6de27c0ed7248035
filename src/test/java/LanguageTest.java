import java.nio.file.Files;
import java.nio.file.Path;
import java.util.List;
import java.util.regex.Matcher;
import java.util.regex.Pattern;

/** Those rules of LANGUAGE.md that can be seen in the text of the class. */
public final class LanguageTest {
    private static final String[] FORBIDDEN = {"^(?! *(case|default)\\b).*->", "::", "\\bfinally\\b", "\\bassert\\b",
        "\\bsynchronized\\b", "\\bhashCode\\b", "\\bgetMessage\\b", "\\bgetClass\\b", "\\bObject\\b", "\\bThread\\b",
        "\\bSystem\\.(?!arraycopy\\()", "Exact\\(", "\\b(Math|Integer)\\.(parse|toString|sqrt|pow|random|valueOf)",
        "\\bArrays\\.(?!(copyOf|copyOfRange|fill)\\()", "\\bRandom\\b", "\\bstream\\(", "\\bextends \\w*Exception\\b",
        "\\bnew (ArrayIndexOutOfBounds|NullPointer|ClassCast|NegativeArraySize|ArrayStore)Exception\\b",
        "\\bcatch \\((ArrayIndexOutOfBounds|NullPointer|ClassCast|NegativeArraySize|ArrayStore)?Exception\\b",
        "\" \\+", "\\+ \""};
    private static final Pattern IMPORT = Pattern.compile(
        "import java\\.util\\.(ArrayList|Arrays|Iterator|List|NoSuchElementException);");
    private static final Pattern CLASS = Pattern.compile("^ *(public|private static) final class |^ *private enum ");
    private static final Pattern METHOD = Pattern.compile("^ +[a-z].*\\(.*\\).* \\{$|^ +[a-z][A-Za-z ]*\\([^;]*\\)$");
    private static final int MOST_LINES = 60;

    private LanguageTest() {
    }

    public static void main(String[] args) throws Exception {
        List<String> lines = Files.readAllLines(Path.of(args[0]));
        int classes = 0;
        for (int number = 1; number <= lines.size(); number++) {
            String line = lines.get(number - 1);
            checkLine(number, line.replaceFirst("^ *(//|/\\*|\\*).*", ""));
            classes += CLASS.matcher(line).find() ? 1 : 0;
        }
        Check.due("at most 12 classes", classes <= 12, true);
        checkLengths(lines);
        Check.end();
    }

    private static void checkLine(int number, String line) {
        for (String forbidden : FORBIDDEN) {
            Matcher matcher = Pattern.compile(forbidden).matcher(line);
            Check.due("line " + number + " without " + forbidden, matcher.find(), false);
        }
        boolean isOther = line.startsWith("import ") && !IMPORT.matcher(line).matches();
        Check.due("line " + number + " imports", isOther, false);
        Check.due("line " + number + " in ASCII", line.chars().allMatch(sign -> sign < 128), true);
        boolean isOpenStatic = line.contains(" static ") && line.contains("=") && !line.contains(" static final ");
        Check.due("line " + number + " static", isOpenStatic, false);
    }

    private static void checkLengths(List<String> lines) {
        int start = 0;
        int methods = 0;
        for (int number = 1; number <= lines.size(); number++) {
            String line = lines.get(number - 1);
            if (METHOD.matcher(line).find() && !line.matches(" +(if|for|while|switch|\\}).*")) {
                start = number;
                methods++;
            }
            boolean isEnd = line.equals("    }") || line.equals("        }");
            boolean isItsEnd = isEnd && start > 0 && indentOf(line) == indentOf(lines.get(start - 1));
            Check.due("method before line " + number, isItsEnd && number - start > MOST_LINES, false);
        }
        Check.due("methods found", methods > 60, true);
    }

    private static int indentOf(String line) {
        return line.length() - line.stripLeading().length();
    }
}
