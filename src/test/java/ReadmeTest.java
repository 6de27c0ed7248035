import java.lang.reflect.InvocationTargetException;
import java.lang.reflect.Method;
import java.nio.file.Files;
import java.nio.file.Path;
import java.util.Arrays;
import java.util.List;
import java.util.regex.Matcher;
import java.util.regex.Pattern;
import java.util.stream.Stream;

/** README.md: its example answers what it says, its text does the same, and the files that it names are there. */
public final class ReadmeTest {
    private static final Pattern CALL = Pattern.compile(
        "vault\\.(\\w+)\\(([^)]*)\\); +// (answers|throws) ([^ ,:]+)(?:[,:] .*)?");
    private static final Pattern OUTPUT = Pattern.compile("the output \"([^\"]*)\"");
    private static final Pattern TEXT = Pattern.compile("`(holder;[^`]*)`");
    private static final Pattern NAME = Pattern.compile("`(\\w+Test|Check|Vaults|Twin|Copy|Model)`");

    private ReadmeTest() {
    }

    public static void main(String[] args) throws Exception {
        String readme = Files.readString(Path.of(args[2]));
        String block = readme.substring(readme.indexOf("```java\n") + 8);
        List<String> example = block.substring(0, block.indexOf("```")).lines().toList();
        Check.due("first line", example.get(0), "ShareVault vault = new ShareVault();");
        ShareVault vault = new ShareVault();
        for (String line : example.subList(1, example.size())) {
            checkLine(vault, line);
        }
        checkText(readme);
        checkFiles(readme);
        Check.end();
    }

    private static void checkLine(ShareVault vault, String line) throws IllegalAccessException {
        Matcher call = CALL.matcher(line);
        Check.due("a call: " + line, call.matches(), true);
        Check.due(line, outcomeOf(vault, call.group(1), call.group(2)), call.group(4));
        Matcher output = OUTPUT.matcher(line);
        if (output.find()) {
            Check.due(line, Check.outputOf(vault, output.group(1).length()), output.group(1));
            Check.due(line, call.group(4), "" + output.group(1).length());
        }
    }

    private static String outcomeOf(ShareVault vault, String name, String arguments) throws IllegalAccessException {
        Object[] values = Stream.of(arguments.split(", ")).filter(value -> !value.isEmpty())
            .map(value -> value.matches("true|false") ? (Object) Boolean.valueOf(value) : Integer.valueOf(value))
            .toArray();
        Method method = Arrays.stream(ShareVault.class.getMethods())
            .filter(each -> each.getName().equals(name)).findFirst().orElseThrow();
        try {
            return String.valueOf(method.invoke(vault, values));
        } catch (InvocationTargetException thrown) {
            return thrown.getCause().getClass().getSimpleName();
        }
    }

    /** The text opens a vault with the secret and the shares of the example. */
    private static void checkText(String readme) {
        Matcher text = TEXT.matcher(readme);
        Check.due("a text", text.find(), true);
        ShareVault vault = new ShareVault();
        Check.due(text.group(1), Check.run(vault, text.group(1)), text.group(1).split(";").length);
        Check.due(text.group(1), vault.isOpen() + " " + vault.toldSecret() + " " + vault.share(0), "true 42 47");
        Check.due(text.group(1), Check.zonesOf(vault), "0> 0 0 0 0 0 0 0");
    }

    private static void checkFiles(String readme) {
        Matcher name = NAME.matcher(readme);
        while (name.find()) {
            Check.due(name.group(1), Files.exists(Path.of("src/test/java/" + name.group(1) + ".java")), true);
        }
        Check.due(".ci/run", readme.contains("\n.ci/run\n") && Files.exists(Path.of(".ci/run")), true);
        Check.due("the class", Files.exists(Path.of("src/main/java/ShareVault.java")), true);
    }
}
