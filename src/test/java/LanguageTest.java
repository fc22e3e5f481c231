import java.lang.reflect.Constructor;
import java.lang.reflect.Field;
import java.lang.reflect.Method;
import java.lang.reflect.Modifier;
import java.nio.file.Files;
import java.nio.file.Path;
import java.util.Set;
import java.util.TreeSet;

/** The face of the document, and those rules of LANGUAGE.md that can be seen from outside. */
public final class LanguageTest {
    private static final String[] FACE = {
        "int tape(int, int, int)", "int plug(int)", "int strip(int)", "int share(int, int)",
        "int head(int, int)", "int step(int, int)", "int loop(int, boolean)",
        "int stamp(int, int, int, long)", "long probe(int, int, int)", "int tag(int, int, boolean)",
        "int rack(int, int, int)", "int unrack(int, int, int)", "int cable(int, int, int)",
        "int patience(int, int)", "int pull(int)", "int plugIn(int)", "int tick()",
        "int splice(int, int, int, int, int)", "int dub(int, int, int)", "long sum(int)",
        "int match(int, int)", "int why()", "long number(int, int)", "int kind(int, int)",
        "int cells(int)", "int of(int, int)", "int told(int, int)", "int fault(int, int)",
        "int count(int)",
    };
    private static final String[] RULED_OUT = {
        "throw", "throws", "try", "catch", "synchronized", "assert", "import", "package",
        "protected", "volatile", "transient", "native",
    };

    public static void main(String[] args) throws Exception {
        face();
        inside();
        sizes(PatchBay.class);
        for (Class<?> inner : PatchBay.class.getDeclaredClasses()) {
            sizes(inner);
        }
        words();
        Due.close();
    }

    private static void face() {
        Set<String> due = new TreeSet<>(Set.of(FACE));
        Set<String> got = new TreeSet<>();
        Set<String> publicNames = new TreeSet<>();
        for (Method method : PatchBay.class.getDeclaredMethods()) {
            if (Modifier.isPrivate(method.getModifiers()) || method.isSynthetic()) continue;
            got.add(told(method));
            publicNames.add(method.getName());
            Due.is(method + " is public", method.getModifiers(), Modifier.PUBLIC);
        }
        Due.is("the face is " + due + ", found " + got, got.equals(due) ? 1 : 0, 1);
        for (Method method : PatchBay.class.getDeclaredMethods()) {
            boolean hidden = Modifier.isPrivate(method.getModifiers());
            Due.is(method + " has a name of its own", hidden && publicNames.contains(method.getName()) ? 1 : 0, 0);
        }
        for (Field field : PatchBay.class.getDeclaredFields()) {
            boolean constant = field.getName().equals("OUTSIDE") || field.getName().equals("FULL");
            int due0 = Modifier.PUBLIC | Modifier.STATIC | Modifier.FINAL;
            if (constant) {
                Due.is(field + " is a public constant", field.getModifiers(), due0);
            } else {
                Due.is(field + " is private", field.getModifiers() & Modifier.PRIVATE, Modifier.PRIVATE);
            }
        }
        Constructor<?>[] constructors = PatchBay.class.getDeclaredConstructors();
        Due.is("one constructor", constructors.length, 1);
        Due.is("it is public", constructors[0].getModifiers(), Modifier.PUBLIC);
        Due.is("it takes nothing", constructors[0].getParameterCount(), 0);
        Due.is("the class is final", PatchBay.class.getModifiers(), Modifier.PUBLIC | Modifier.FINAL);
    }

    private static String told(Method method) {
        StringBuilder text = new StringBuilder();
        text.append(method.getReturnType()).append(' ').append(method.getName()).append('(');
        for (Class<?> type : method.getParameterTypes()) {
            if (text.charAt(text.length() - 1) != '(') text.append(", ");
            text.append(type);
        }
        return text.append(')').toString();
    }

    private static void inside() {
        Class<?>[] classes = PatchBay.class.getDeclaredClasses();
        Due.is("twelve classes at most", classes.length < 12 ? 1 : 0, 1);
        for (Class<?> inner : classes) {
            Due.is(inner + " is static", inner.getModifiers() & Modifier.STATIC, Modifier.STATIC);
            Due.is(inner + " is not public", inner.getModifiers() & (Modifier.PUBLIC | Modifier.PROTECTED), 0);
            for (Field field : inner.getDeclaredFields()) {
                Due.is(field + " is not static", field.getModifiers() & Modifier.STATIC, 0);
            }
        }
    }

    /** Rule 11: seven parameters, and some twenty fields beside the constants. */
    private static void sizes(Class<?> of) {
        int fields = 0;
        for (Field field : of.getDeclaredFields()) {
            if (!Modifier.isStatic(field.getModifiers())) fields++;
        }
        Due.is(of + " has few fields", fields <= 20 ? 1 : 0, 1);
        for (Method method : of.getDeclaredMethods()) {
            Due.is(method + " has few parameters", method.getParameterCount() <= 7 ? 1 : 0, 1);
        }
    }

    private static void words() throws Exception {
        String source = Files.readString(Path.of("src/main/java/PatchBay.java"));
        String code = source.replaceAll("(?s)/\\*.*?\\*/", " ").replaceAll("//[^\n]*", " ");
        Set<String> words = new TreeSet<>(java.util.Arrays.asList(code.split("[^A-Za-z0-9_]+")));
        for (String word : RULED_OUT) {
            Due.is("the word " + word, words.contains(word) ? 1 : 0, 0);
        }
        Due.is("no text, so none is joined", code.contains("\"") ? 1 : 0, 0);
        Due.is("methods stay short", longestBlock(source.split("\n")) <= 60 ? 1 : 0, 1);
        Due.is("no lambda", code.contains("->") ? 1 : 0, 0);
        Due.is("no method reference", code.contains("::") ? 1 : 0, 0);
        Due.is("plain signs alone", source.chars().allMatch(sign -> sign < 128) ? 1 : 0, 1);
    }

    /** The most lines from a head of a method to the brace at its own depth. */
    private static int longestBlock(String[] lines) {
        int longest = 0;
        for (int from = 0; from < lines.length; from++) {
            String line = lines[from];
            if (!line.endsWith(") {")) continue;
            String end = " ".repeat(line.length() - line.stripLeading().length()) + "}";
            int to = from;
            while (to < lines.length && !lines[to].startsWith(end)) to++;
            longest = Math.max(longest, to - from + 1);
        }
        return longest;
    }
}
