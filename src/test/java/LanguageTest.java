import java.io.IOException;
import java.lang.reflect.Constructor;
import java.lang.reflect.Field;
import java.lang.reflect.Member;
import java.lang.reflect.Method;
import java.lang.reflect.Modifier;
import java.nio.file.Files;
import java.nio.file.Path;
import java.util.Arrays;
import java.util.List;
import java.util.Set;
import java.util.TreeSet;
import java.util.regex.Matcher;
import java.util.regex.Pattern;

/** Those rules of LANGUAGE.md, and the face of the document, that a program can look at. */
public final class LanguageTest {
    private static final String[] FACE = {
        "int row(int, int)", "int lay(int, int, int)", "int tear(int)", "int copy(int, int, int, int, int)",
        "int thing(int, int, int, int)", "int on(int, int)", "int told(int, int)", "int mark(int, int)",
        "int worth(int, int)", "int mean(int)", "int death(int, int, int)", "int act(int, int, int, int, boolean)",
        "int acts(int, int)", "int deathTold(int, int)", "int moving(int, int)", "int blame(int, int)",
        "int text(int, int, boolean, int)", "int inForce(int)", "int forfeit(int, int, int)", "int value(int, int)",
        "int sure(int, boolean)", "int due(int)", "int unlike(int)", "int settle(int)", "int jury(int, int)",
        "int habit(int, int, int)", "int worstPlace(int, int)", "int shortfall(int, int)",
        "int grant(int, int, int, int, int, int)", "int taker(int, int)", "int takes(int, int, int)",
        "int otherwise(int, boolean, int)", "int freed(int, boolean, int)", "int shift(int, boolean, int, int)",
        "int leastChange(int, int)", "int asked()", "long upper()", "long lower()", "int count(int)", "int finding()",
        "int findings(int)", "long digest()"};
    private static final String[] FORBIDDEN = {"throw", "throws", "try", "catch", "finally", "synchronized", "assert",
        "import", "package", "protected", "volatile", "transient", "native", "yield", "var", "null", "Exact"};

    public static void main(String[] args) throws IOException {
        face();
        classes();
        source(Files.readString(Path.of(args[0])));
        Check.end();
    }

    private static void face() {
        Class<?> book = ForfeitBook.class;
        Check.due("the class is public and final", book.getModifiers(), Modifier.PUBLIC | Modifier.FINAL);
        Set<String> methods = new TreeSet<>();
        for (Method m : book.getDeclaredMethods()) {
            if (!Modifier.isPrivate(m.getModifiers())) methods.add(told(m));
            Check.isTrue(m.getName() + " is public or private", isPublicOrPrivate(m));
        }
        same("public methods", methods, new TreeSet<>(Arrays.asList(FACE)));
        Set<String> constants = new TreeSet<>();
        for (Field f : book.getDeclaredFields()) {
            if (!Modifier.isPrivate(f.getModifiers())) constants.add(f.getName());
            Check.isTrue(f.getName() + " is public or private", isPublicOrPrivate(f));
        }
        same("public constants", constants, new TreeSet<>(List.of("BAD", "FULL", "FINDING", "STATE", "NONE")));
        Constructor<?>[] made = book.getDeclaredConstructors();
        Check.due("constructors", made.length, 1);
        Check.due("the constructor is public", made[0].getModifiers(), Modifier.PUBLIC);
        Check.due("the constructor's parameters", made[0].getParameterCount(), 0);
    }

    private static boolean isPublicOrPrivate(Member m) {
        return Modifier.isPublic(m.getModifiers()) || Modifier.isPrivate(m.getModifiers());
    }

    private static String told(Method m) {
        StringBuilder text = new StringBuilder(m.getReturnType().getName()).append(' ').append(m.getName());
        String separator = "(";
        for (Class<?> type : m.getParameterTypes()) {
            text.append(separator).append(type.getName());
            separator = ", ";
        }
        return text.append(separator.equals("(") ? "()" : ")").toString();
    }

    private static void same(String what, Set<String> got, Set<String> want) {
        if (!got.equals(want)) System.out.println(what + ": " + got + ", due are " + want);
        Check.isTrue(what, got.equals(want));
    }

    private static void classes() {
        Set<String> publicNames = new TreeSet<>();
        for (Method m : ForfeitBook.class.getMethods()) {
            if (m.getDeclaringClass() == ForfeitBook.class) publicNames.add(m.getName());
        }
        Class<?>[] inside = ForfeitBook.class.getDeclaredClasses();
        Check.isTrue("at most twelve classes", inside.length + 1 <= 12);
        shape(ForfeitBook.class, publicNames);
        for (Class<?> c : inside) {
            Check.isTrue(c + " is static", Modifier.isStatic(c.getModifiers()));
            Check.due(c + " holds no further class", c.getDeclaredClasses().length, 0);
            shape(c, publicNames);
        }
    }

    private static void shape(Class<?> c, Set<String> publicNames) {
        int fields = 0;
        for (Field f : c.getDeclaredFields()) {
            if (!Modifier.isStatic(f.getModifiers())) fields++;
            else Check.isTrue(f + " is final", Modifier.isFinal(f.getModifiers()));
        }
        Check.isTrue(c + " has at most twenty fields", fields <= 20);
        for (Method m : c.getDeclaredMethods()) {
            Check.isTrue(m + " has at most seven parameters", m.getParameterCount() <= 7);
            boolean ofFace = c == ForfeitBook.class && Modifier.isPublic(m.getModifiers());
            Check.isTrue(m + " bears a name of the face", ofFace || !publicNames.contains(m.getName()));
        }
    }

    private static void source(String text) {
        for (int i = 0; i < text.length(); i++) {
            if (text.charAt(i) > 127) Check.isTrue("sign " + (int) text.charAt(i) + " in the source", false);
        }
        String code = text.replaceAll("(?s)/\\*.*?\\*/", "").replaceAll("//[^\n]*", "");
        for (String word : FORBIDDEN) {
            Check.isTrue("the code has the word " + word, !Pattern.compile("\\b" + word + "\\b").matcher(code).find());
        }
        for (String sign : new String[] {"->", "::", "\"", "@"}) {
            Check.isTrue("the code has " + sign, !code.contains(sign));
        }
        for (String line : code.split("\n")) {
            boolean makesInField = line.matches(" +private final .* = new .*;");
            Check.isTrue("made with the object alone: " + line.trim(), !line.contains(" new ") || makesInField);
            if (line.contains("while")) Check.isTrue("a loop without a counter: " + line.trim(), false);
        }
        Matcher bodies = Pattern.compile("(?m)^( +)[^ \n}][^\n]*\\) \\{\n((?:\\1 [^\n]*\n|\n)*)\\1\\}").matcher(code);
        while (bodies.find()) {
            Check.isTrue("some sixty lines at most: " + bodies.group(), bodies.group(2).split("\n").length <= 60);
        }
    }
}
