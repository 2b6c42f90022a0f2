import java.io.IOException;
import java.lang.reflect.Method;
import java.lang.reflect.Modifier;
import java.nio.file.Files;
import java.nio.file.Path;
import java.util.Arrays;
import java.util.regex.Matcher;
import java.util.regex.Pattern;

/** README.md tells the use of the class as it is; the program's path is the first argument. */
public final class ReadmeTest {
    private static final Check CHECK = new Check();
    /** A line of the example: a call, and the answer with which its comment begins. */
    private static final Pattern LINE = Pattern.compile("(?m)^t\\.(\\w+)\\(([-0-9, ]*)\\); *// (-?\\d+)\\b");

    public static void main(String[] args) throws IOException, ReflectiveOperationException {
        CHECK.holds("the program's path is given", args.length == 1);
        String text = Files.readString(Path.of(args[0]).resolve("../../../../README.md").normalize());
        exampleAnswersAsTold(text);
        everyMethodIsNamed(text);
        CHECK.holds("how to run the tests is told", text.contains("\n    bash .ci/run\n"));
        CHECK.end();
    }

    private static void exampleAnswersAsTold(String text) throws ReflectiveOperationException {
        TermSpread spread = new TermSpread();
        Matcher line = LINE.matcher(text);
        int lines = 0;
        while (line.find()) {
            lines++;
            CHECK.due(line.group(), answer(spread, line.group(1), line.group(2)), Integer.parseInt(line.group(3)));
        }
        CHECK.due("lines of the example", lines, (int) text.lines().filter(l -> l.startsWith("t.")).count());
        CHECK.holds("there is an example", lines > 0);
    }

    private static int answer(TermSpread spread, String name, String numbers) throws ReflectiveOperationException {
        Object[] values = Arrays.stream(numbers.split(", ")).map(Integer::valueOf).toArray();
        Class<?>[] types = new Class<?>[values.length];
        Arrays.fill(types, int.class);
        return (int) TermSpread.class.getMethod(name, types).invoke(spread, values);
    }

    private static void everyMethodIsNamed(String text) {
        for (Method method : TermSpread.class.getDeclaredMethods()) {
            if (Modifier.isPublic(method.getModifiers())) {
                String told = "`" + method.getName() + "\\((\\w+(, )?){" + method.getParameterCount() + "}\\)`";
                CHECK.holds(told + " is told", Pattern.compile(told).matcher(text).find());
            }
        }
    }
}
