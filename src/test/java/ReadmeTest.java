import java.nio.file.Files;
import java.nio.file.Path;
import java.util.regex.Matcher;
import java.util.regex.Pattern;

/** The example of README.md: each call in it, in its order, answers what stands behind it. */
public final class ReadmeTest {
    private static final Pattern TEXT = Pattern.compile("String text = \"([^\"]*)\";");
    private static final Pattern CALL = Pattern.compile("(?m)^coast\\.(\\w+)\\(([-\\d, ]*)\\);\\s*// (-?\\d+)\\b");
    private static final Pattern ASKED = Pattern.compile("(?m)^coast\\.");
    private static final Due DUE = new Due("ReadmeTest");

    public static void main(String[] args) throws Exception {
        DUE.part("the example");
        String readme = Files.readString(Path.of("README.md"));
        PaidByCoast coast = new PaidByCoast();
        Matcher text = TEXT.matcher(readme);
        DUE.that("there is a text", text.find());
        Ask.feedAll(coast, text.group(1));
        long calls = 0;
        Matcher call = CALL.matcher(readme);
        while (call.find()) {
            calls++;
            String arguments = call.group(2).replace(",", "");
            String told = arguments.isEmpty() ? call.group(1) : call.group(1) + " " + arguments;
            DUE.is(told, Ask.told(coast, told), Integer.parseInt(call.group(3)));
        }
        DUE.is("calls with an answer", calls, ASKED.matcher(readme).results().count());
        DUE.end();
    }
}
