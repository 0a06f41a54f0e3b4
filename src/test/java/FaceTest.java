import java.io.IOException;
import java.lang.reflect.Constructor;
import java.lang.reflect.Field;
import java.lang.reflect.Method;
import java.lang.reflect.Modifier;
import java.nio.file.Files;
import java.nio.file.Path;
import java.util.Arrays;
import java.util.HashSet;
import java.util.Set;
import java.util.TreeSet;
import java.util.regex.Pattern;

/** The document's public face, and the rules of LANGUAGE.md that can be seen in the text. */
public final class FaceTest {
    private static final String[] METHODS = {
        "int add(long,int)", "int zeros(int)", "int poke(int,int,int)", "int peek(int)", "int cut(int)",
        "int load(int)", "int told(int)", "int stack(int)", "long read(int,int)", "int write(int,int,int)",
        "long fetch(int)", "int protect(int,int)", "int unmap(int,int)", "int rights(int)", "int count(int)",
        "int sum(int,int)"};

    public static void main(String[] args) throws IOException {
        face();
        classesInside();
        text();
        Check.end();
    }

    private static void face() {
        Check.holds("public and final", Modifier.isPublic(ImageLoader.class.getModifiers())
            && Modifier.isFinal(ImageLoader.class.getModifiers()));
        Set<String> found = new TreeSet<>();
        for (Method method : ImageLoader.class.getDeclaredMethods()) {
            if (!Modifier.isPrivate(method.getModifiers())) {
                found.add(described(method));
            }
        }
        Check.holds("the methods are " + found, found.equals(new TreeSet<>(Arrays.asList(METHODS))));
        Set<String> fields = new TreeSet<>();
        for (Field field : ImageLoader.class.getDeclaredFields()) {
            if (!Modifier.isPrivate(field.getModifiers())) {
                fields.add(field.getName());
            }
        }
        Check.holds("the constants are " + fields, fields.equals(Set.of("NONE", "BAD", "REFUSED")));
        Constructor<?>[] constructors = ImageLoader.class.getDeclaredConstructors();
        Check.same("constructors", constructors.length, 1);
        Check.holds("its constructor", Modifier.isPublic(constructors[0].getModifiers())
            && Arrays.equals(constructors[0].getParameterTypes(), new Class<?>[] {int.class}));
        Check.same("NONE", ImageLoader.NONE, -1);
        Check.same("BAD", ImageLoader.BAD, -2);
        Check.same("REFUSED", ImageLoader.REFUSED, -3);
    }

    private static String described(Method method) {
        StringBuilder text = new StringBuilder(method.getReturnType() + " " + method.getName() + "(");
        Class<?>[] types = method.getParameterTypes();
        for (int i = 0; i < types.length; i++) {
            text.append(i == 0 ? "" : ",").append(types[i]);
        }
        return text.append(")").toString();
    }

    private static void classesInside() {
        Set<String> publicNames = new HashSet<>();
        for (String method : METHODS) {
            publicNames.add(method.substring(method.indexOf(' ') + 1, method.indexOf('(')));
        }
        Class<?>[] inside = ImageLoader.class.getDeclaredClasses();
        Check.holds("at most twelve classes", inside.length < 12);
        for (Class<?> one : inside) {
            Check.holds(one + " is static", Modifier.isStatic(one.getModifiers()));
            Check.holds(one + " has few fields", one.getDeclaredFields().length <= 32);
            for (Method method : one.getDeclaredMethods()) {
                Check.holds(one + "." + method.getName() + " has a name of its own", !publicNames.contains(method.getName()));
                Check.holds(one + "." + method.getName() + " has few parameters", method.getParameterCount() <= 7);
            }
        }
    }

    private static void text() throws IOException {
        String source = Files.readString(Path.of("src/main/java/ImageLoader.java"));
        String code = source.replaceAll("(?s)/\\*.*?\\*/", " ").replaceAll("//[^\n]*", " ");
        String[] words = {"throw", "throws", "try", "catch", "synchronized", "assert", "package", "import", "Random",
            "Thread", "System", "protected", "var", "Object", "HashMap"};
        for (String word : words) {
            Check.holds("the text has no word " + word, !Pattern.compile("\\b" + word + "\\b").matcher(code).find());
        }
        Check.holds("nothing that ends in Exact", !Pattern.compile("Exact\\b").matcher(code).find());
        Check.holds("no lambda, no method reference", !code.contains("->") && !code.contains("::"));
        Check.holds("plain characters", source.chars().allMatch(c -> c == '\n' || c >= 32 && c < 127));
    }
}
