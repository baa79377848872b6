import java.lang.reflect.Method;
import java.lang.reflect.Modifier;
import java.nio.file.Files;
import java.nio.file.Path;
import java.util.List;
import java.util.regex.Matcher;
import java.util.regex.Pattern;

/** README.md tells the class as it is: each answer of its example is the one that is given, and it tells every call. */
public final class ReadmeTest {
    private static final Due due = new Due();
    private static final Pattern CALL = Pattern.compile("house\\.(\\w+)\\(([-0-9, ]*)\\);\\s*// (-?\\d+):.*");
    private static final Pattern TYPED = Pattern.compile("for \\(char letter : \"([^\"]*)\"\\.toCharArray\\(\\)\\) \\{");
    private static final List<String> ROUND_THEM = List.of("AshClerks house = new AshClerks();", "house.type(letter);", "}", "");

    public static void main(String[] args) throws Exception {
        String text = Files.readString(Path.of("README.md"));
        int start = text.indexOf("```java\n");
        int end = text.indexOf("```", start + 3);
        due.holds("there is an example", start >= 0 && end > start);
        example(text.substring(Math.max(0, start), Math.max(0, end)).replace("```java\n", ""));
        everyCall(text);
        due.end();
    }

    private static void example(String lines) throws Exception {
        AshClerks house = new AshClerks();
        for (String line : lines.split("\n")) {
            Matcher call = CALL.matcher(line.strip());
            Matcher typed = TYPED.matcher(line.strip());
            if (call.matches()) {
                due.is(line.strip(), answer(house, call.group(1), call.group(2)), Long.parseLong(call.group(3)));
            } else if (typed.matches()) {
                for (char letter : typed.group(1).toCharArray()) {
                    house.type(letter);
                }
            } else {
                due.holds("a line that is understood: " + line, ROUND_THEM.contains(line.strip()));
            }
        }
    }

    private static int answer(AshClerks house, String name, String told) throws Exception {
        String[] numbers = told.isBlank() ? new String[0] : told.split(",");
        for (Method m : AshClerks.class.getMethods()) {
            if (m.getName().equals(name) && m.getParameterCount() == numbers.length && m.getReturnType() == int.class) {
                Object[] arguments = new Object[numbers.length];
                for (int k = 0; k < numbers.length; k++) {
                    long v = Long.parseLong(numbers[k].strip());
                    // a choice by ?: would make both a long
                    if (m.getParameterTypes()[k] == long.class) {
                        arguments[k] = v;
                    } else {
                        arguments[k] = (int) v;
                    }
                }
                return (int) m.invoke(house, arguments);
            }
        }
        throw new IllegalStateException("no such call: " + name);
    }

    private static void everyCall(String text) {
        for (Method m : AshClerks.class.getDeclaredMethods()) {
            if (Modifier.isPublic(m.getModifiers())) {
                due.holds(m.getName() + " is told in a table with all that it is given", Pattern.compile(
                    "`" + m.getName() + "\\(" + parameters(m.getParameterCount()) + "\\)`").matcher(text).find());
            }
        }
    }

    private static String parameters(int count) {
        return count == 0 ? "" : "\\w+" + ", \\w+".repeat(count - 1);
    }
}
