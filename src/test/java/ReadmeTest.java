import java.io.IOException;
import java.lang.reflect.InvocationTargetException;
import java.lang.reflect.Method;
import java.nio.file.Files;
import java.nio.file.Path;
import java.util.regex.Matcher;
import java.util.regex.Pattern;

/** The example in README.md answers what stands there, and the page names each call. */
public final class ReadmeTest {
    /** A call of the example, its arguments, and what is due up to a colon or the end of the line. */
    private static final Pattern LINE = Pattern.compile("game\\.(\\w+)\\((.*)\\); +// ([^:]+)(:.*)?");

    private static final Check CHECK = new Check("ReadmeTest");

    public static void main(String[] args) throws IOException {
        String page = Files.readString(Path.of("README.md"));
        SeedBattle game = new SeedBattle();
        int played = 0;
        for (String line : page.split("\n")) {
            Matcher call = LINE.matcher(line);
            if (call.matches()) {
                String[] texts = call.group(2).isEmpty() ? new String[0] : call.group(2).split(", ");
                CHECK.same(line, answer(game, call.group(1), texts), call.group(3));
                played++;
            } else {
                CHECK.same("a line that is not played: " + line, line.startsWith("game."), false);
            }
        }
        CHECK.same("the example has calls", played > 20, true);
        for (Method method : SeedBattle.class.getMethods()) {
            if (method.getDeclaringClass() == SeedBattle.class) {
                CHECK.same(method.getName() + " is named", page.contains("`" + method.getName() + "`"), true);
            }
        }
        CHECK.end();
    }

    private static String answer(SeedBattle game, String name, String[] texts) {
        for (Method method : SeedBattle.class.getMethods()) {
            if (method.getName().equals(name) && method.getParameterCount() == texts.length) {
                return String.valueOf(Check.answer(() -> invoke(game, method, texts)));
            }
        }
        return "no such call";
    }

    private static Object invoke(SeedBattle game, Method method, String[] texts) {
        Object[] values = new Object[texts.length];
        for (int at = 0; at < texts.length; at++) {
            values[at] = value(method.getParameterTypes()[at], texts[at]);
        }
        try {
            return method.invoke(game, values);
        } catch (InvocationTargetException e) {
            throw (RuntimeException) e.getCause();
        } catch (IllegalAccessException e) {
            throw new IllegalStateException(e);
        }
    }

    private static Object value(Class<?> type, String text) {
        if (type == char.class) {
            return text.charAt(1);
        }
        return type == boolean.class ? (Object) Boolean.valueOf(text) : (Object) Integer.valueOf(text);
    }
}
