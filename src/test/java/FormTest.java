import java.util.Random;
import java.util.regex.Matcher;
import java.util.regex.Pattern;

/** The form of a text and its error position, against a regular expression that tells what can continue. */
public final class FormTest {
    private static final String COMMAND = "(?:holder|seal(?: [0-9]{1,2}){4}|share [0-9] [0-9]{1,2}|give [0-9]"
            + "|back [0-9]|open|close|guard [0-9][+-][0-9]|turn [0-9]|hum [0-9] [0-9]|wait(?: [0-9]{1,2})?)";
    static final Pattern TEXT = Pattern.compile(COMMAND + "(?:;" + COMMAND + ")*");
    private static final String[] SAMPLES = {
        "holder", "seal 1 2 3 1", "seal 96 0 50 03", "share 0 9", "share 7 96", "give 0", "back 7", "open", "close",
        "guard 0+1", "guard 7-4", "turn 0", "hum 3 9", "wait", "wait 1", "wait 24", "seal 99 99 99 99"
    };
    private static final String SIGNS = "holderseacntuwgipkbmH 0123456789+-;.\u0000\u00ff\uffff";

    private FormTest() {
    }

    public static void main(String[] args) {
        for (String sample : SAMPLES) {
            checkPrefixesAndChanges(sample);
            checkPrefixesAndChanges("holder;" + sample);
            checkPrefixesAndChanges(sample + ";wait 3");
        }
        Random random = new Random(97);
        for (int round = 0; round < 20000; round++) {
            checkForm(randomText(random));
        }
        checkForm("open;".repeat(12));
        checkForm("wait;".repeat(11) + "wait");
        checkForm("open;".repeat(11) + "openx");
        Check.end();
    }

    private static void checkPrefixesAndChanges(String sample) {
        for (int length = 0; length <= sample.length(); length++) {
            checkForm(sample.substring(0, length));
            for (char sign : SIGNS.toCharArray()) {
                checkForm(sample.substring(0, length) + sign);
                checkForm(sample.substring(0, length) + sign + sample.substring(length));
            }
        }
    }

    private static String randomText(Random random) {
        StringBuilder text = new StringBuilder(SAMPLES[random.nextInt(SAMPLES.length)]);
        for (int more = random.nextInt(4); more > 0; more--) {
            text.append(';').append(SAMPLES[random.nextInt(SAMPLES.length)]);
        }
        for (int changes = random.nextInt(3); changes > 0 && text.length() > 0; changes--) {
            int index = random.nextInt(text.length());
            char sign = SIGNS.charAt(random.nextInt(SIGNS.length()));
            switch (random.nextInt(3)) {
                case 0 -> text.setCharAt(index, sign);
                case 1 -> text.insert(index, sign);
                default -> text.deleteCharAt(index);
            }
        }
        return text.substring(0, Math.min(60, text.length()));
    }

    private static void checkForm(String text) {
        ShareVault vault = new ShareVault();
        Check.feedAll(vault, text);
        String outcome = Check.outcomeOf(vault::runCommands);
        if (TEXT.matcher(text).matches()) {
            Check.due("'" + text + "' is well-formed", outcome.equals("IllegalArgumentException"), false);
            Check.due("'" + text + "'", Check.outcomeOf(vault::errorPosition), "NoSuchElementException");
        } else {
            Check.due("'" + text + "'", outcome, "IllegalArgumentException");
            Check.due("'" + text + "'", Check.outcomeOf(vault::errorPosition), "" + firstWrong(text));
        }
        Check.due("'" + text + "' is taken away", vault.feed('x'), 1);
    }

    static int firstWrong(String text) {
        for (int length = 1; length <= text.length(); length++) {
            Matcher matcher = TEXT.matcher(text.substring(0, length));
            // What matches or was ended by its end alone can be continued.
            if (!matcher.matches() && !matcher.hitEnd()) {
                return length - 1;
            }
        }
        return text.length();
    }
}
