import java.lang.reflect.Method;
import java.lang.reflect.Modifier;
import java.nio.file.Files;
import java.nio.file.Path;
import java.util.regex.Matcher;
import java.util.regex.Pattern;

/** README.md tells the truth: its example answers what stands behind each call, and no call of the face is missing. */
public final class ReadmeTest {
    private static final Pattern CALL = Pattern.compile("x\\.(\\w+)\\((.*)\\); +// (-?\\d+)(:.*)?");
    private static final Due DUE = new Due();

    public static void main(String[] args) throws Exception {
        String readme = Files.readString(Path.of("README.md"));
        TongueSight x = new TongueSight();
        for (String line : readme.split("\n")) {
            Matcher m = CALL.matcher(line);
            boolean isCall = m.matches();
            DUE.is("README.md, a call without its answer: " + line, line.startsWith("x.") && !isCall ? 1 : 0, 0);
            if (isCall) {
                DUE.is("README.md, " + line, answerOf(x, m.group(1), m.group(2)), Integer.parseInt(m.group(3)));
            }
        }
        for (Method method : TongueSight.class.getDeclaredMethods()) {
            boolean told = Pattern.compile("\\b" + method.getName() + "\\b").matcher(readme).find();
            DUE.is("README.md names " + method.getName(), told || !Modifier.isPublic(method.getModifiers()) ? 1 : 0, 1);
        }
        DUE.end();
    }

    private static int answerOf(TongueSight x, String name, String inner) throws ReflectiveOperationException {
        String[] words = inner.isEmpty() ? new String[0] : inner.split(", ");
        for (Method method : TongueSight.class.getDeclaredMethods()) {
            if (method.getName().equals(name)) {
                Class<?>[] types = method.getParameterTypes();
                Object[] values = new Object[words.length];
                for (int i = 0; i < words.length; i++) {
                    values[i] = valueOf(types[i], words[i]);
                }
                return (Integer) method.invoke(x, values);
            }
        }
        throw new NoSuchMethodException(name);
    }

    private static Object valueOf(Class<?> type, String word) {
        if (type == boolean.class) {
            return Boolean.valueOf(word);
        }
        if (type == long.class) {
            return Long.decode(word.replace("L", ""));
        }
        return Integer.valueOf(word);
    }
}
