import java.io.IOException;
import java.lang.reflect.Method;
import java.lang.reflect.Modifier;
import java.nio.file.Files;
import java.nio.file.Path;
import java.util.regex.Matcher;
import java.util.regex.Pattern;

/**
 * README.md's example: each call answers the first number of the comment behind it; and no call of the
 * class goes unnamed there. The argument is the path of the class's source.
 */
public final class ReadmeTests {
    private static final Answers ANSWERS = new Answers();

    public static void main(String[] arguments) throws IOException, ReflectiveOperationException {
        Path root = Path.of(arguments[0]).toAbsolutePath().getParent().getParent().getParent().getParent();
        String readme = Files.readString(root.resolve("README.md"));
        example(readme);
        namesEachCall(readme);
        ANSWERS.finish("ReadmeTests");
    }

    private static void example(String readme) throws ReflectiveOperationException {
        Matcher text = Pattern.compile("String text = \"(.*)\";").matcher(readme);
        ANSWERS.due("an example's text is there", 1, text.find() ? 1 : 0);
        ContractTester tester = new ContractTester();
        Answers.append(tester, text.group(1));

        Matcher line = Pattern.compile("tester\\.(\\w+)\\(([-0-9, ]*)\\);\\s+// (-?[0-9]+)").matcher(readme);
        int lines = 0;
        while (line.find()) {
            lines++;
            ANSWERS.due("README.md's " + line.group(), Integer.parseInt(line.group(3)),
                    answer(tester, line.group(1), line.group(2)));
        }
        ANSWERS.due("calls of the example", 10, lines);
    }

    private static int answer(ContractTester tester, String name, String numbers) throws ReflectiveOperationException {
        String[] parts = numbers.isBlank() ? new String[0] : numbers.split(", *");
        Class<?>[] types = new Class<?>[parts.length];
        Object[] values = new Object[parts.length];
        for (int index = 0; index < parts.length; index++) {
            types[index] = int.class;
            values[index] = Integer.valueOf(parts[index]);
        }
        return (int) ContractTester.class.getMethod(name, types).invoke(tester, values);
    }

    private static void namesEachCall(String readme) {
        for (Method method : ContractTester.class.getDeclaredMethods()) {
            if (Modifier.isPublic(method.getModifiers())) {
                boolean isNamed = Pattern.compile("`" + method.getName() + "(\\(\\))?`").matcher(readme).find();
                ANSWERS.due("README.md names " + method.getName(), 1, isNamed ? 1 : 0);
            }
        }
    }
}
