import java.io.File;
import java.io.IOException;
import java.lang.reflect.Field;
import java.lang.reflect.Method;
import java.lang.reflect.Modifier;
import java.nio.file.Files;
import java.nio.file.Path;
import java.util.ArrayList;
import java.util.Arrays;
import java.util.List;
import java.util.Set;
import java.util.TreeSet;
import java.util.regex.Matcher;
import java.util.regex.Pattern;

/** Reads README.md itself, so that what it says can't come apart from what the class does. */
public final class ReadmeTest {
    private static final String MAKING = "ContractProbe probe = new ContractProbe();";
    private static final Pattern CALL = Pattern.compile("probe\\.(\\w+)\\((.*)\\);\\s+// (.+)");
    private static final Pattern ANSWER = Pattern.compile("(true|false|-?\\d+): (.+)");
    private static final Pattern OPERATOR = Pattern.compile("\\b(\\d+) ([A-Z]{2,})\\b");
    private static final int OPERATORS = 25;

    public static void main(String[] args) throws IOException, ReflectiveOperationException {
        List<String> lines = Files.readAllLines(Path.of("README.md"));
        answersAsItSays(exampleOf(lines));
        namesOperators(lines);
        namesTests(lines);
        Check.finish();
    }

    private static List<String> exampleOf(List<String> lines) {
        int from = lines.indexOf("```java");
        int to = from + lines.subList(from + 1, lines.size()).indexOf("```") + 1;
        Check.isTrue("README.md has an example", from >= 0 && to > from + 1);
        Check.due("README.md has one example", from, lines.lastIndexOf("```java"));
        List<String> example = new ArrayList<>(lines.subList(from + 1, Math.max(to, from + 1)));
        example.removeIf(String::isBlank);
        return example;
    }

    /** A line of any other form is wrong: it would be an example that nobody tried. */
    private static void answersAsItSays(List<String> example) throws ReflectiveOperationException {
        Check.isTrue("the example begins with a new object", !example.isEmpty() && example.get(0).equals(MAKING));
        ContractProbe probe = new ContractProbe();
        Set<String> called = new TreeSet<>();
        for (String line : example.subList(Math.min(1, example.size()), example.size())) {
            Matcher call = CALL.matcher(line);
            boolean isCall = call.matches();
            Check.isTrue("a call and what it answers: " + line, isCall);
            if (isCall) {
                called.add(call.group(1));
                answersAsItSays(line, probe, call);
            }
        }
        for (Method method : ContractProbe.class.getDeclaredMethods()) {
            boolean isOfTheFace = Modifier.isPublic(method.getModifiers());
            Check.isTrue("the example calls " + method.getName(), !isOfTheFace || called.contains(method.getName()));
        }
    }

    private static void answersAsItSays(String line, ContractProbe probe, Matcher call)
            throws ReflectiveOperationException {
        Object[] arguments = numbersOf(call.group(2));
        Class<?>[] types = new Class<?>[arguments.length];
        Arrays.fill(types, int.class);
        Method method = ContractProbe.class.getMethod(call.group(1), types);
        Object got = method.invoke(probe, arguments);
        Matcher answer = ANSWER.matcher(call.group(3));
        boolean saysOne = answer.matches();
        Check.isTrue("an answer, if there is one: " + line, saysOne == (method.getReturnType() != void.class));
        if (saysOne) {
            Check.isTrue(line + " answered " + got, answer.group(1).equals(String.valueOf(got)));
        }
        if (saysOne && call.group(1).equals("add")) {
            String name = answer.group(2).split(" ")[0];
            Check.isTrue("the operator's name: " + line, (Integer) arguments[0] == operatorOf(name));
        }
    }

    private static Object[] numbersOf(String list) {
        String[] texts = list.isEmpty() ? new String[0] : list.split(", ");
        Object[] numbers = new Object[texts.length];
        for (int i = 0; i < texts.length; i++) {
            numbers[i] = Integer.parseInt(texts[i]);
        }
        return numbers;
    }

    /** In a row of a table that tells operators by number and name, each is told once and rightly. */
    private static void namesOperators(List<String> lines) {
        Set<Integer> told = new TreeSet<>();
        for (String line : lines.subList(lines.indexOf("| Operators | Words taken and put |"), lines.size())) {
            Matcher operator = OPERATOR.matcher(line.startsWith("|") ? line : "");
            while (operator.find()) {
                int number = Integer.parseInt(operator.group(1));
                Check.due("the number of " + operator.group(2), number, operatorOf(operator.group(2)));
                Check.isTrue(number + " is told once", told.add(number));
            }
        }
        Check.due("operators told", told.size(), OPERATORS);
    }

    /** The document's number of an operator, -1 if there is none of that name. */
    private static int operatorOf(String name) {
        try {
            Field field = Contracts.class.getDeclaredField(name);
            return field.getInt(null);
        } catch (ReflectiveOperationException e) {
            return -1;
        }
    }

    private static void namesTests(List<String> lines) {
        String text = String.join("\n", lines);
        Check.isTrue("README.md says how to run the tests", text.contains("\nbash .ci/run\n"));
        File[] files = new File("src/test/java").listFiles();
        Check.isTrue("there are tests", files != null);
        for (File file : files) {
            boolean isTest = file.getName().endsWith("Test.java");
            Check.isTrue("README.md names " + file.getName(), !isTest || text.contains(file.getName() + "`"));
        }
    }
}
