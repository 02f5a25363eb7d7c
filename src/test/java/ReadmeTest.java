import java.io.IOException;
import java.lang.reflect.Method;
import java.lang.reflect.Modifier;
import java.nio.file.Files;
import java.nio.file.Path;
import java.util.regex.Matcher;
import java.util.regex.Pattern;

/** README.md tells how to use the class: its example's answers are due, and it names each call. */
public final class ReadmeTest {
    private static final Path README = Path.of("README.md");
    private static final Pattern CALL =
        Pattern.compile("x\\.(\\w+)\\((.*)\\);\\s+// (-?[0-9.]+): .+");

    private static final CandleRooms X = new CandleRooms();

    public static void main(String[] args) throws IOException, ReflectiveOperationException {
        String text = Files.readString(README);
        int calls = 0;
        for (String line : example(text).split("\n")) {
            Matcher call = CALL.matcher(line);
            if (call.matches()) {
                calls++;
                answersAsTold(call);
            } else if (!line.equals("CandleRooms x = new CandleRooms();")) {
                Check.fail("not a call with its answer: " + line);
            }
        }
        Check.same("calls are told", 1, calls > 0 ? 1 : 0);
        namesEachCall(text);
        Check.end("ReadmeTest");
    }

    private static String example(String text) {
        Matcher block = Pattern.compile("```java\n(.*?)\n```", Pattern.DOTALL).matcher(text);
        return block.find() ? block.group(1) : "";
    }

    private static void answersAsTold(Matcher call) throws ReflectiveOperationException {
        String[] told = call.group(2).isEmpty() ? new String[0] : call.group(2).split(", ");
        Class<?>[] types = new Class<?>[told.length];
        Object[] values = new Object[told.length];
        for (int place = 0; place < told.length; place++) {
            types[place] = told[place].matches("true|false") ? boolean.class : int.class;
            values[place] = valueOf(told[place]);
        }
        Method method = CandleRooms.class.getMethod(call.group(1), types);
        String got = String.valueOf(method.invoke(X, values));
        if (!got.equals(call.group(3))) {
            Check.fail(call.group() + " (answered is " + got + ")");
        }
        Check.same(call.group(1), 0, 0);
    }

    private static Object valueOf(String told) {
        if (told.matches("true|false")) {
            return Boolean.valueOf(told);
        }
        return told.startsWith("'") ? told.charAt(1) : Integer.parseInt(told);
    }

    private static void namesEachCall(String text) {
        for (Method method : CandleRooms.class.getDeclaredMethods()) {
            if (Modifier.isPublic(method.getModifiers())) {
                String name = "`" + method.getName() + "`";
                Check.same(name + " is named", 1, text.contains(name) ? 1 : 0);
            }
        }
    }
}
