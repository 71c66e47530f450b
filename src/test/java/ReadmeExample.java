import java.io.IOException;
import java.lang.reflect.Method;
import java.nio.charset.StandardCharsets;
import java.nio.file.Files;
import java.nio.file.Paths;
import java.util.regex.Matcher;
import java.util.regex.Pattern;

/** The example of README.md: every call in it is made, and answers what stands behind it. */
public final class ReadmeExample {
    private static final Pattern PUT = Pattern.compile("put\\(office, \"([^\"]*)\"\\);");
    private static final Pattern CALL = Pattern.compile("office\\.(\\w+)\\(([^)]*)\\); *// ([^:]*):.*");
    private static int answers = 0;

    public static void main(String[] args) throws Exception {
        SaltOffice office = null;
        for (String line : Files.readAllLines(Paths.get("README.md"), StandardCharsets.US_ASCII)) {
            Matcher put = PUT.matcher(line);
            Matcher call = CALL.matcher(line);
            if (line.equals("SaltOffice office = new SaltOffice();")) {
                office = new SaltOffice();
            } else if (put.matches()) {
                Check.put(office, put.group(1));
            } else if (call.matches()) {
                hold(office, line, call);
            } else {
                Check.due("a line that is no call: " + line, line.startsWith("office."), false);
            }
        }
        Check.due("there is an example", answers > 20, true);
        allCallsAreNamed();
        Check.done();
    }

    private static void hold(SaltOffice office, String line, Matcher call) throws Exception {
        String[] given = call.group(2).isEmpty() ? new String[0] : call.group(2).split(", ");
        Class<?>[] types = new Class<?>[given.length];
        Object[] numbers = new Object[given.length];
        for (int i = 0; i < given.length; i++) {
            types[i] = int.class;
            numbers[i] = given[i].equals("SaltOffice.NONE") ? SaltOffice.NONE : Integer.parseInt(given[i]);
        }
        Object got = SaltOffice.class.getMethod(call.group(1), types).invoke(office, numbers);
        Check.due(line + " (" + got + ")", got.toString().equals(call.group(3)), true);
        answers++;
    }

    private static void allCallsAreNamed() throws IOException {
        String text = new String(Files.readAllBytes(Paths.get("README.md")), StandardCharsets.US_ASCII);
        for (Method m : SaltOffice.class.getDeclaredMethods()) {
            if (java.lang.reflect.Modifier.isPublic(m.getModifiers())) {
                Check.due("README.md names " + m.getName(), text.contains("`" + m.getName() + "`"), true);
            }
        }
        Check.due("README.md tells how to run the tests", text.contains(".ci/run"), true);
    }
}
