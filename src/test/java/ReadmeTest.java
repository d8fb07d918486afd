import java.lang.reflect.Method;
import java.lang.reflect.Modifier;
import java.nio.file.Files;
import java.nio.file.Path;
import java.util.regex.Matcher;
import java.util.regex.Pattern;

/** What README.md shows of the class is so. */
public final class ReadmeTest {
    public static void main(String[] args) throws Exception {
        String page = Files.readString(Path.of("README.md"));
        callsAnswerAsShown(page);
        textIsRead(page);
        for (Method m : EclipseSeats.class.getDeclaredMethods()) {
            if (Modifier.isPublic(m.getModifiers())) {
                Due.due(m.getName() + " stands in the table", page.contains("`" + m.getName() + "`") ? 1 : 0, 1);
            }
        }
        Due.end();
    }

    private static void callsAnswerAsShown(String page) throws Exception {
        EclipseSeats x = new EclipseSeats();
        Matcher line = Pattern.compile("(?m)^x\\.(\\w+)\\((.*?)\\);\\s*// (-?\\d+):").matcher(page);
        int lines = 0;
        while (line.find()) {
            Due.due(line.group(), call(x, line.group(1), line.group(2)), Long.parseLong(line.group(3)));
            lines++;
        }
        long shown = page.lines().filter(l -> l.startsWith("x.")).count();
        Due.due("lines with an answer", lines, shown);
        Due.due("there are some", lines > 0 ? 1 : 0, 1);
    }

    private static long call(EclipseSeats x, String name, String list) throws Exception {
        String[] numbers = list.isEmpty() ? new String[0] : list.split(", ");
        for (Method m : EclipseSeats.class.getDeclaredMethods()) {
            if (m.getName().equals(name) && m.getParameterCount() == numbers.length) {
                Object[] given = new Object[numbers.length];
                for (int i = 0; i < given.length; i++) {
                    given[i] = Integer.parseInt(numbers[i]);
                }
                return ((Number) m.invoke(x, given)).longValue();
            }
        }
        throw new IllegalArgumentException("no such call: " + name);
    }

    private static void textIsRead(String page) {
        Matcher text = Pattern.compile("(?m)^hill .*;$").matcher(page);
        Due.due("a text is shown", text.find() ? 1 : 0, 1);
        EclipseSeats x = new EclipseSeats();
        Due.due("its items", Due.readText(x, text.group()), 6);
        Due.due("who is in yard 3", x.yard(3, 2), 0);
    }
}
