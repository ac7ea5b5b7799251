import java.io.IOException;
import java.lang.reflect.Method;
import java.nio.file.Files;
import java.nio.file.Path;
import java.util.regex.Matcher;
import java.util.regex.Pattern;

/** The answers that README.md tells: its lines "desk.call(..); // answer: .." and "put(desk, text);" are run in turn. */
final class ReadmeTest {
    private static final Pattern LINE =
        Pattern.compile("(?m)^(?:put\\(desk, \"(.*)\"\\);|desk\\.(\\w+)\\((.*?)\\); +// (-?\\d+)(?::.*)?)$");

    private ReadmeTest() {
    }

    static void run(Path file) throws IOException, ReflectiveOperationException {
        Check.about("README");
        CounterDesk x = new CounterDesk();
        Matcher lines = LINE.matcher(Files.readString(file));
        int found = 0;
        while (lines.find()) {
            found++;
            if (lines.group(1) != null) {
                Check.tape(x, lines.group(1));
            } else {
                Check.due(lines.group(), answer(x, lines.group(2), lines.group(3)), Long.parseLong(lines.group(4)));
            }
        }
        Check.due("lines of README that are run", found > 30 ? 1 : 0, 1);
    }

    private static long answer(CounterDesk x, String name, String told) throws ReflectiveOperationException {
        String[] args = told.isEmpty() ? new String[0] : told.split(", ");
        Object[] numbers = new Object[args.length];
        Class<?>[] types = new Class<?>[args.length];
        for (int i = 0; i < args.length; i++) {
            types[i] = int.class;
            numbers[i] = args[i].equals("CounterDesk.NONE") ? CounterDesk.NONE : Integer.decode(args[i]);
        }
        Method m = CounterDesk.class.getMethod(name, types);
        return ((Number) m.invoke(x, numbers)).longValue();
    }
}
