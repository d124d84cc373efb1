import java.io.IOException;
import java.lang.reflect.Method;
import java.nio.file.Files;
import java.nio.file.Path;
import java.util.List;
import java.util.regex.Matcher;
import java.util.regex.Pattern;

/** What README.md says of the class: the calls of its example answer so, and its table has every call of the face. */
public final class ReadmeTest {
    private static final Check CHECK = new Check();
    private static final Pattern CALL = Pattern.compile("town\\.(\\w+)\\((.*)\\);\\s+// (-?\\w+).*");
    private static final Pattern ROW = Pattern.compile("\\| `(\\w+)\\((.*)\\)` \\| .* \\|");

    public static void main(String[] args) throws IOException, ReflectiveOperationException {
        List<String> lines = Files.readAllLines(Path.of("README.md"));
        makeCalls(lines);
        for (Method due : TripRounds.class.getDeclaredMethods()) {
            if (java.lang.reflect.Modifier.isPublic(due.getModifiers())) {
                CHECK.same("rows for " + due.getName(), 1, rowsFor(due, lines));
            }
        }
        CHECK.end();
    }

    private static void makeCalls(List<String> lines) throws ReflectiveOperationException {
        TripRounds town = new TripRounds();
        int made = 0;
        for (String line : lines) {
            Matcher call = CALL.matcher(line);
            if (call.matches()) {
                made++;
                String text = call.group(1) + "(" + call.group(2) + ")";
                CHECK.text(text, call.group(3), "" + answer(town, call.group(1), call.group(2)));
            } else if (line.startsWith("town.")) {
                CHECK.tell("no answer stands behind " + line);
            }
        }
        CHECK.same("there is an example", 1, made > 0 ? 1 : 0);
    }

    private static Object answer(TripRounds town, String name, String row) throws ReflectiveOperationException {
        String[] texts = row.isEmpty() ? new String[0] : row.split(", ");
        for (Method m : TripRounds.class.getDeclaredMethods()) {
            if (m.getName().equals(name) && m.getParameterCount() == texts.length) {
                Object[] values = new Object[texts.length];
                for (int i = 0; i < texts.length; i++) {
                    boolean isNumber = m.getParameterTypes()[i] == int.class;
                    values[i] = isNumber ? (Object) Integer.valueOf(texts[i]) : Boolean.valueOf(texts[i]);
                }
                return m.invoke(town, values);
            }
        }
        return "that there is no such call";
    }

    private static int rowsFor(Method due, List<String> lines) {
        int rows = 0;
        for (String line : lines) {
            Matcher row = ROW.matcher(line);
            if (row.matches() && row.group(1).equals(due.getName())) {
                int many = row.group(2).isEmpty() ? 0 : row.group(2).split(", ").length;
                rows += many == due.getParameterCount() ? 1 : 0;
            }
        }
        return rows;
    }
}
