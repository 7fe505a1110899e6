import java.io.IOException;
import java.lang.reflect.Field;
import java.lang.reflect.Method;
import java.lang.reflect.Modifier;
import java.nio.file.Files;
import java.nio.file.Path;
import java.util.Arrays;
import java.util.regex.Matcher;
import java.util.regex.Pattern;

/** The example in README.md answers what it says there, and no call and no code is left out. */
public final class ReadmeTests {
    private static final Pattern CALL =
            Pattern.compile("^desk\\.(\\w+)\\(([^)]*)\\); *// (-?\\d+):.*$", Pattern.MULTILINE);

    private static int wrong = 0;

    public static void main(String[] args) throws IOException, IllegalAccessException {
        String text = Files.readString(Path.of("README.md"));
        int answered = runExample(text);
        demand("each call of the example has its answer", answered > 0 && answered == countCalls(text));
        for (Method method : TelescopeDesk.class.getDeclaredMethods()) {
            if (Modifier.isPublic(method.getModifiers())) {
                demand(method.getName() + " is told", text.contains("`" + method.getName() + "("));
            }
        }
        for (Field field : TelescopeDesk.class.getFields()) {
            String told = "`" + field.getName() + "` (" + field.get(null) + ")";
            demand(told + " is told", field.getName().equals("P") || text.contains(told));
        }
        System.out.println(wrong == 0 ? "the readme is as due" : wrong + " faults in the readme");
        if (wrong != 0) {
            System.exit(1);
        }
    }

    private static int runExample(String text) {
        CountedDesk desk = new CountedDesk();
        Matcher line = CALL.matcher(text);
        while (line.find()) {
            int[] arguments = Arrays.stream(line.group(2).split(", ")).mapToInt(Integer::parseInt).toArray();
            int got = desk.call(line.group(1), arguments);
            demand(line.group() + " | answered " + got, got == Integer.parseInt(line.group(3)));
        }
        return desk.calls();
    }

    private static long countCalls(String text) {
        return text.lines().filter(line -> line.startsWith("desk.")).count();
    }

    private static void demand(String what, boolean holds) {
        if (!holds) {
            wrong++;
            System.out.println("not so: " + what);
        }
    }
}
