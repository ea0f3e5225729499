import java.io.IOException;
import java.lang.reflect.InvocationTargetException;
import java.lang.reflect.Method;
import java.nio.file.Files;
import java.nio.file.Path;
import java.util.regex.Matcher;
import java.util.regex.Pattern;

/** What README.md tells of its shop: each call that is written there answers what is written behind it. */
public final class ReadmeTest {
    private static final Pattern SHOP = Pattern.compile("```text\n(.*?)```", Pattern.DOTALL);
    private static final Pattern CALL = Pattern.compile("^x\\.(\\w+)\\(([^)]*)\\);\\s*// (-?\\d+|true|false)", Pattern.MULTILINE);
    private static final Pattern NAME = Pattern.compile("`(\\w+)`");

    public static void main(String[] args) throws IOException, ReflectiveOperationException {
        String readme = Files.readString(Path.of("README.md"));
        Matcher text = SHOP.matcher(readme);
        Check.due("a shop is told", true, text.find());
        ShopEyes x = Check.shop(text.group(1));
        Matcher call = CALL.matcher(readme);
        int calls = 0;
        while (call.find()) {
            Check.due("x." + call.group(1) + "(" + call.group(2) + ")", number(call.group(3)), answer(x, call));
            calls++;
        }
        Check.due("calls with their answers", true, calls > 20);
        allAreNamed(readme);
        Check.end("ReadmeTest");
    }

    private static long answer(ShopEyes x, Matcher call) throws IllegalAccessException, InvocationTargetException {
        String[] words = call.group(2).isEmpty() ? new String[0] : call.group(2).split(", ");
        Method method = method(call.group(1));
        Object[] values = new Object[words.length];
        for (int i = 0; i < words.length; i++) {
            values[i] = method.getParameterTypes()[i] == boolean.class ? (Object) words[i].equals("true") : Integer.valueOf(words[i]);
        }
        return number(String.valueOf(method.invoke(x, values)));
    }

    private static Method method(String name) {
        for (Method method : ShopEyes.class.getDeclaredMethods()) {
            if (method.getName().equals(name)) {
                return method;
            }
        }
        throw new IllegalStateException("no method " + name);
    }

    private static long number(String answer) {
        return answer.equals("true") ? 1 : answer.equals("false") ? 0 : Long.parseLong(answer);
    }

    private static void allAreNamed(String readme) {
        StringBuilder named = new StringBuilder(" ");
        Matcher name = NAME.matcher(readme);
        while (name.find()) {
            named.append(name.group(1)).append(' ');
        }
        for (Method method : ShopEyes.class.getDeclaredMethods()) {
            if (java.lang.reflect.Modifier.isPublic(method.getModifiers())) {
                Check.due("README.md names " + method.getName(), true, named.indexOf(" " + method.getName() + " ") >= 0);
            }
        }
    }
}
