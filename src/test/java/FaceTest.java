import java.lang.reflect.Constructor;
import java.lang.reflect.Field;
import java.lang.reflect.Method;
import java.lang.reflect.Modifier;
import java.nio.file.Files;
import java.nio.file.Path;
import java.util.ArrayList;
import java.util.List;
import java.util.Set;
import java.util.TreeSet;

/** The face of the document and those rules of LANGUAGE.md that can be seen in the file. */
public final class FaceTest {
    private static final String FACE = "feed(long) end(int) text() fault() rule(int) light(int,int,int) "
            + "lightOf(int,int) shift(int,int,int) place(int) leads(int,int) point(int,int,int) feels(int,int) "
            + "tenths(int,int) tired(int) rest() alike(int,int) parted(int,int,int) right(int,int,int) needs(int) "
            + "move(int,int,boolean) foretell(int,int,int) head(int) forget() lessons(int) asks(int,int) "
            + "heard(int,int,int) sounds(int,int) beside(int) answer(int,int,int,boolean) dead() kill(int,boolean) "
            + "sheet(int,int,int) lay(int,int,int) read(int,int,int,int,int,int) torn() count(int)";
    private static final String[] FORBIDDEN = {"throw", "try", "catch", "finally", "synchronized", "assert", "import static",
        "package", "->", "::", "Exact(", "System.out", "protected", "interface", "extends", "Object", "var"};

    private static int wrong;

    public static void main(String[] args) throws Exception {
        checkMethods();
        checkConstants();
        checkClasses();
        checkSource();
        System.out.println(wrong == 0 ? "the face and the rules hold" : wrong + " rules do not hold");
        System.exit(wrong == 0 ? 0 : 1);
    }

    private static void say(boolean holds, String what) {
        if (!holds) {
            wrong++;
            System.out.println("does not hold: " + what);
        }
    }

    private static void checkMethods() {
        Set<String> want = new TreeSet<>(List.of(FACE.split(" ")));
        Set<String> got = new TreeSet<>();
        Set<String> publicNames = new TreeSet<>();
        for (Method m : TongueSight.class.getDeclaredMethods()) {
            int how = m.getModifiers();
            if (!Modifier.isPrivate(how)) {
                say(Modifier.isPublic(how) && !Modifier.isStatic(how) && m.getReturnType() == int.class, m.toString());
                got.add(m.getName() + parameters(m));
                publicNames.add(m.getName());
            }
        }
        say(got.equals(want), "the methods: " + got);
        List<Class<?>> all = new ArrayList<>(List.of(TongueSight.class.getDeclaredClasses()));
        all.add(TongueSight.class);
        for (Class<?> c : all) {
            for (Method m : c.getDeclaredMethods()) {
                say(!Modifier.isPrivate(m.getModifiers()) || !publicNames.contains(m.getName()), "a name twice: " + m);
                say(m.getParameterCount() <= 7, "seven parameters: " + m);
            }
        }
    }

    private static String parameters(Method m) {
        StringBuilder text = new StringBuilder("(");
        for (Class<?> c : m.getParameterTypes()) {
            text.append(text.length() > 1 ? "," : "").append(c.getName());
        }
        return text.append(')').toString();
    }

    private static void checkConstants() throws IllegalAccessException {
        Set<String> got = new TreeSet<>();
        for (Field f : TongueSight.class.getDeclaredFields()) {
            int how = f.getModifiers();
            if (!Modifier.isPrivate(how)) {
                say(Modifier.isPublic(how) && Modifier.isStatic(how) && Modifier.isFinal(how), f.toString());
                got.add(f.getName() + " " + f.getInt(null));
            }
        }
        say(got.equals(Set.of("BAD -1", "STATE -2", "FULL -3", "NONE -4")), "the constants: " + got);
    }

    private static void checkClasses() {
        say(Modifier.isFinal(TongueSight.class.getModifiers()), "the class is final");
        Constructor<?>[] made = TongueSight.class.getDeclaredConstructors();
        say(made.length == 1 && Modifier.isPublic(made[0].getModifiers()) && made[0].getParameterCount() == 0,
                "one public constructor");
        Class<?>[] inside = TongueSight.class.getDeclaredClasses();
        say(inside.length < 12, "at most twelve classes");
        List<Class<?>> all = new ArrayList<>(List.of(inside));
        all.add(TongueSight.class);
        for (Class<?> c : all) {
            say(c == TongueSight.class || Modifier.isStatic(c.getModifiers()), "static: " + c);
            int fields = 0;
            for (Field f : c.getDeclaredFields()) {
                boolean still = Modifier.isStatic(f.getModifiers());
                say(!still || Modifier.isFinal(f.getModifiers()), "static fields are final: " + f);
                fields += still ? 0 : 1;
            }
            say(fields <= 20, "at most twenty fields: " + c);
        }
    }

    private static void checkSource() throws java.io.IOException {
        String source = Files.readString(Path.of("src/main/java/TongueSight.java"));
        String code = source.replaceAll("(?s)/\\*.*?\\*/", "").replaceAll("//[^\n]*", "");
        for (String word : FORBIDDEN) {
            boolean isWord = Character.isLetter(word.charAt(0)) && Character.isLetter(word.charAt(word.length() - 1));
            String pattern = java.util.regex.Pattern.quote(word);
            pattern = isWord ? "(?s).*\\b" + pattern + "\\b.*" : "(?s).*" + pattern + ".*";
            say(!code.matches(pattern), "not in the language: " + word);
        }
        for (String line : code.split("\n")) {
            say(!line.startsWith("import ") || line.equals("import java.util.Arrays;"), line);
        }
        say(source.chars().allMatch(c -> c == '\n' || c >= 32 && c < 127), "plain signs alone");
        checkLengths(source.split("\n"));
    }

    private static void checkLengths(String[] lines) {
        int heads = 0;
        for (int i = 0; i < lines.length; i++) {
            String indent = lines[i].replaceAll("^( *).*", "$1");
            String words = "^ +(public|private|static|int|void|boolean|[A-Z]\\w*)\\b[^;=]*\\) \\{$";
            if (lines[i].matches(words)) {
                heads++;
                int end = i;
                while (end < lines.length && !lines[end].equals(indent + "}")) {
                    end++;
                }
                say(end - i < 60, "a method of sixty lines: " + lines[i]);
            }
        }
        say(heads > 37, "methods were found: " + heads);
    }
}
