import java.lang.reflect.Method;
import java.nio.file.Files;
import java.nio.file.Path;
import java.util.regex.Matcher;
import java.util.regex.Pattern;

/** The calls that README.md shows answer what stands behind them, and each method is named there. */
public final class ReadmeTest {
    private static final Pattern CALL = Pattern.compile("x\\.(\\w+)\\(([^)]*)\\); +// (.*)");

    private static int calls;
    private static int wrong;

    public static void main(String[] args) throws Exception {
        String readme = Files.readString(Path.of("README.md"));
        Tokenwalk x = new Tokenwalk();
        Matcher shown = CALL.matcher(readme);
        while (shown.find()) {
            calls++;
            String got = written(answer(x, shown.group(1), shown.group(2).split(", ")));
            check(shown.group(3).equals(got) || shown.group(3).startsWith(got + " ("), shown.group() + " answered " + got);
        }
        check(calls > 0, "README.md shows no call");
        for (Method method : Tokenwalk.class.getMethods()) {
            check(method.getDeclaringClass() != Tokenwalk.class || readme.contains("`" + method.getName() + "`"),
                "README.md does not name " + method.getName());
        }
        System.out.println("ReadmeTest: " + (wrong == 0 ? "all " + calls + " calls answer so" : wrong + " faults"));
        if (wrong != 0) {
            System.exit(1);
        }
    }

    private static void check(boolean holds, String fault) {
        if (!holds) {
            wrong++;
            System.out.println(fault);
        }
    }

    private static Object answer(Tokenwalk x, String name, String[] numbers) throws Exception {
        for (Method method : Tokenwalk.class.getMethods()) {
            if (method.getName().equals(name)) {
                Object[] given = new Object[numbers.length];
                for (int i = 0; i < given.length; i++) {
                    boolean isTruth = method.getParameterTypes()[i] == boolean.class;
                    given[i] = isTruth ? (Object) Boolean.valueOf(numbers[i]) : (Object) Integer.valueOf(numbers[i]);
                }
                return method.invoke(x, given);
            }
        }
        throw new IllegalArgumentException("there is no method " + name);
    }

    private static String written(Object answer) {
        return answer instanceof String ? "\"" + answer + "\"" : String.valueOf(answer);
    }
}
