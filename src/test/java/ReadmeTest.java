import java.lang.reflect.Method;
import java.lang.reflect.Modifier;
import java.nio.file.Files;
import java.nio.file.Path;
import java.util.regex.Pattern;

/** What README.md says of the use: its example, and its tables of the calls. */
public final class ReadmeTest {
    private static final Check check = new Check();

    private static String readme;

    public static void main(String[] args) throws Exception {
        readme = Files.readString(Path.of("README.md"));
        exampleAnswersWhatIsSaid();
        tablesHaveEachCall();
        check.end();
    }

    private static void exampleAnswersWhatIsSaid() {
        PrintLedger shop = new PrintLedger();
        says("shop.job(0, 10, 10, 1000, 3)", shop.job(0, 10, 10, 1000, 3));
        says("shop.bestPress(job)", shop.bestPress(0));
        says("shop.order(job, press)", shop.order(0, 0));
        says("shop.buyAll()", shop.buyAll());
        says("shop.slip(press, 50, 6)", shop.slip(0, 50, 6));
        says("shop.invoice(job)", shop.invoice(0));
    }

    private static void says(String call, int answer) {
        int at = readme.indexOf(call + ";");
        String behind = at < 0 ? "" : readme.substring(at + call.length() + 1).strip();
        check.due(call + " in README.md", 1, () -> behind.startsWith("// " + answer + ":") ? 1 : 0);
    }

    private static void tablesHaveEachCall() {
        for (Method m : PrintLedger.class.getDeclaredMethods()) {
            if (Modifier.isPublic(m.getModifiers())) {
                Pattern row = Pattern.compile("^\\| `" + m.getName() + arguments(m.getParameterCount()) + "` \\| .",
                        Pattern.MULTILINE);
                check.due(m.getName() + " in a table of README.md", 1, () -> row.matcher(readme).find() ? 1 : 0);
            }
        }
    }

    private static String arguments(int count) {
        return count == 0 ? "\\(\\)" : "\\([a-z]+" + ", [a-z]+".repeat(count - 1) + "\\)";
    }
}
