import java.io.IOException;
import java.lang.reflect.Constructor;
import java.lang.reflect.Field;
import java.lang.reflect.Method;
import java.lang.reflect.Modifier;
import java.nio.file.Files;
import java.nio.file.Path;
import java.util.ArrayList;
import java.util.List;
import java.util.Random;
import java.util.regex.Matcher;
import java.util.regex.Pattern;

/** What stands in the document ahead of its answers: what it is, the public face, its terms at large. */
public final class FrontBoundaryTest extends Boundary {
    private static final String CALL = "(int|long) (\\w+)\\(([^)]*)\\)";

    public static void main(String[] args) throws IOException, ReflectiveOperationException {
        open(args);
        whateverMovesToADeath();
        atMost512Calls();
        classOfTheFace();
        constantsOfTheFace();
        List<String> face = callsOfTheFace();
        if (args.length > 1) promisesOfTheFace(args[1], face);
        callsOfTheInterface(face);
        actsInOrder();
        whatMovedAndStood();
        textsByAge();
        surelyOrPerhaps();
        juries();
        lords();
        newTexts();
        end("What it is", "The public face", "Terms", "the interface");
    }

    /** An ox draws a cart with a sack ON it, the cart's wheel strikes, and a wall stands by. */
    private static ForfeitBook oxAndCart() {
        ForfeitBook x = new ForfeitBook();
        x.thing(BEAST, 0, 300, NONE);
        x.thing(THING, 1, 60, NONE);
        x.thing(THING, 1, 12, 1);
        x.thing(THING, 2, 5, NONE);
        x.thing(STANDING, 3, 900, NONE);
        x.on(3, 1);
        die(x, GOES, 0, 0, SURE, MOVES, 0, 1, SURE, STRIKES, 2, 0, SURE);
        return x;
    }

    private static void whateverMovesToADeath() {
        says("What it is", "The thing that killed: a law by which whatever moves to a death is forfeit.");
        ForfeitBook x = oxAndCart();
        tells(x, 0, 0, "value", 0, 0);
        x.text(1000, 3, false, 0);
        tells(x, 4, 0b01111, "moving", 0, 0);
        tells(x, 3, 0b00111, "blame", 0, 0);
        tells(x, 300 + 72, 0b00011, "value", 0, 0);
    }

    /** Books as full as they can be, each called 512 times and no more, at last with the dearest calls. */
    private static void atMost512Calls() {
        says("What it is", "An object is used for at most 512 calls after it has been made; what later calls answer is"
            + " free.");
        for (int run = 0; run < 12; run++) {
            Random random = new Random(run);
            ForfeitBook book = new ForfeitBook();
            PlainBook plain = new PlainBook();
            for (int n = 1; n <= 512; n++) {
                String name = nameOfCall(n);
                int[] p = chosen(name, n, random);
                Check.due("run " + run + ", call " + n + ", " + name, Calls.make(book, name, p), plain.call(name, p));
            }
        }
    }

    private static String nameOfCall(int n) {
        if (n <= 20) return "thing";
        if (n <= 32) return "death";
        if (n <= 152) return "act";
        if (n <= 160) return "text";
        if (n <= 170) return "grant";
        if (n <= 190) return "on";
        String[] telling = {"leastChange", "worstPlace", "shift", "takes", "settle", "sure", "otherwise", "asked",
            "digest"};
        return telling[n % telling.length];
    }

    private static int[] chosen(String name, int n, Random random) {
        int rule = random.nextInt(4), sorts = random.nextInt(8), a = random.nextInt(10), b = 10 + random.nextInt(10);
        switch (name) {
            case "thing": return new int[] {random.nextInt(4), n % 3, 9999 + n % 2, n % 3 == 0 ? n - 2 : NONE};
            case "death": return new int[] {n % 2, 1500 + n, random.nextInt(30000)};
            case "act": return new int[] {n % 12, random.nextInt(4), a, b, n / 12 % 2};
            case "text": return new int[] {1520 + n % 9, rule, n % 2, 1 << random.nextInt(3)};
            case "grant": return new int[] {n % 8, n % 2, 1500, 1540, sorts, 1 + n % 12};
            case "on": return new int[] {n - 171, random.nextInt(20)};
            case "leastChange": return new int[] {n % 10, sorts};
            case "worstPlace": return new int[] {1000, 1900};
            case "shift": return new int[] {rule, n % 2, sorts, 10};
            case "takes": return new int[] {9, 1000, 1900};
            case "settle": return new int[] {n % 12};
            case "sure": return new int[] {n % 12, n % 2};
            case "otherwise": return new int[] {rule, n % 2, sorts};
            default: return new int[0];
        }
    }

    private static void classOfTheFace() {
        says("The public face", "public final class ForfeitBook {");
        Class<?> book = ForfeitBook.class;
        Check.due("public and final alone", book.getModifiers(), Modifier.PUBLIC | Modifier.FINAL);
        Check.isTrue("no package", book.getPackageName().isEmpty());
        Check.isTrue("of nothing but Object", book.getSuperclass() == Object.class);
        Check.due("implements", book.getInterfaces().length, 0);
        says("The public face", "public ForfeitBook();");
        Constructor<?>[] made = book.getDeclaredConstructors();
        Check.due("constructors", made.length, 1);
        Check.due("public", made[0].getModifiers(), Modifier.PUBLIC);
        Check.due("parameters", made[0].getParameterCount(), 0);
        Check.due("throws", made[0].getExceptionTypes().length, 0);
    }

    private static void constantsOfTheFace() throws ReflectiveOperationException {
        Matcher line = Pattern.compile("public static final int ([^;]*);").matcher(wordsOf("The public face"));
        int constants = 0;
        while (line.find()) {
            says("The public face", line.group());
            for (String one : line.group(1).split(", ")) {
                constants++;
                Field f = ForfeitBook.class.getDeclaredField(one.split(" = ")[0]);
                Check.due(f.getName(), f.getInt(null), Integer.parseInt(one.split(" = ")[1]));
                Check.due(f.getName() + " is public, static, final", f.getModifiers(),
                    Modifier.PUBLIC | Modifier.STATIC | Modifier.FINAL);
                Check.isTrue(f.getName() + " is an int", f.getType() == int.class);
            }
        }
        if (!wordsOf("The public face").isEmpty()) {
            Check.due("no other public fields", ForfeitBook.class.getFields().length, constants);
        }
    }

    /** The calls as the face tells them, without the word public and the semicolon. */
    private static List<String> callsOfTheFace() throws ReflectiveOperationException {
        List<String> face = new ArrayList<>();
        Matcher call = Pattern.compile("public (" + CALL + ");").matcher(wordsOf("The public face"));
        while (call.find()) {
            says("The public face", call.group());
            face.add(call.group(1));
            Method m = ForfeitBook.class.getDeclaredMethod(call.group(3), typesOf(call.group(4)));
            Check.due("public alone", m.getModifiers(), Modifier.PUBLIC);
            Check.isTrue("what it answers", m.getReturnType().getName().equals(call.group(2)));
            Check.due("throws", m.getExceptionTypes().length, 0);
        }
        int others = 0;
        for (Method m : ForfeitBook.class.getDeclaredMethods()) {
            if (!Modifier.isPrivate(m.getModifiers())) others++;
        }
        if (!face.isEmpty()) Check.due("no other calls", others, face.size());
        return face;
    }

    private static Class<?>[] typesOf(String parameters) {
        if (parameters.isEmpty()) return new Class<?>[0];
        String[] each = parameters.split(", ");
        Class<?>[] types = new Class<?>[each.length];
        for (int i = 0; i < each.length; i++) {
            types[i] = each[i].startsWith("boolean ") ? boolean.class : int.class;
        }
        return types;
    }

    /** Promise 1 is the new object, and each later one is a call, in the order of the face. */
    private static void promisesOfTheFace(String path, List<String> face) throws IOException {
        if (!Files.exists(Path.of(path))) return;
        List<String> promised = new ArrayList<>();
        Matcher promise = Pattern.compile("(?m)^`(" + CALL + ")`: ").matcher(Files.readString(Path.of(path)));
        while (promise.find()) {
            promised.add(promise.group(1));
        }
        Check.under("the promises");
        Check.isTrue("are of the calls of the face, in its order: " + promised, promised.equals(face));
    }

    private static void callsOfTheInterface(List<String> face) {
        List<String> named = new ArrayList<>();
        Matcher sentence = Pattern.compile("Ahead of the calls (.*?) the interface says: ---- \\d [^.]*\\.")
            .matcher(wordsOf("the interface"));
        while (sentence.find()) {
            says("the interface", sentence.group());
            for (String name : sentence.group(1).split(", ")) {
                named.add(name.replace("`", ""));
            }
        }
        List<String> names = new ArrayList<>();
        for (String call : face) {
            names.add(call.replaceFirst("^\\w+ ", "").replaceFirst("\\(.*", ""));
        }
        Check.isTrue("names the calls of the face, in its order: " + named, named.equals(names));
    }

    private static void actsInOrder() {
        says("Terms", "Deaths told as acts in order, some of them doubtful;");
        ForfeitBook x = things(BEAST, 3);
        x.text(1000, 1, true, 0);
        int d = die(x, STRIKES, 2, 0, DOUBTFUL, STRIKES, 1, 0, SURE, STRIKES, 0, 0, DOUBTFUL);
        int[] sets = {0b010, 0b110, 0b011, 0b111};
        for (int reading = 0; reading < 4; reading++) {
            tells(x, Integer.bitCount(sets[reading]), sets[reading], "forfeit", d, reading, 0);
        }
    }

    private static void whatMovedAndStood() {
        says("Terms", "what moved what, what stood, parts and wholes, what lay on what;");
        ForfeitBook x = oxAndCart();
        tells(x, 4, 0b01111, "moving", 0, 0);
        int d = die(x, GOES, 0, 0, SURE, MOVES, 0, 4, SURE, STRIKES, 4, 0, SURE);
        tells(x, 1, 0b00001, "moving", d, 0);
        tells(x, 0, 0, "blame", d, 0);
        d = die(x, GOES, 0, 0, SURE, MOVES, 0, 1, SURE, STRIKES, 3, 0, SURE);
        tells(x, 3, 0b01011, "blame", d, 0);
        x.on(3, NONE);
        tells(x, 3, 0b00111, "moving", d, 0);
        tells(x, 0, 0, "blame", d, 0);
    }

    private static void textsByAge() {
        says("Terms", "texts of the law by age, whole or part, only what moved;");
        ForfeitBook x = oxAndCart();
        x.act(0, FELL, 4, 0, true);
        x.text(1500, 1, false, 0);
        tells(x, 12, 0b00100, "value", 0, 0);
        x.text(1499, 1, true, 0);
        tells(x, 12, 0b00100, "value", 0, 0);
        x.text(1500, 0, false, 0);
        tells(x, 72, 0b00010, "value", 0, 0);
        x.text(1500, 1, true, 0);
        tells(x, 912, 0b10100, "value", 0, 0);
        x.text(1501, 2, false, 0);
        tells(x, 912, 0b10100, "value", 0, 0);
    }

    private static void surelyOrPerhaps() {
        says("Terms", "what falls by each reading, surely or perhaps;");
        ForfeitBook x = oxAndCart();
        x.text(1000, 1, true, 0);
        x.act(0, STRIKES, 4, 0, false);
        tells(x, 1, 0b00100, "sure", 0, 0);
        tells(x, 2, 0b10100, "sure", 0, 1);
        tells(x, 12, 0, "due", 0);
        keeps(x, 2, "unlike", 0);
        tells(x, 3, 1, "settle", 0);
    }

    private static void juries() {
        says("Terms", "worth as juries told it, and which of them cut it past chance;");
        ForfeitBook x = oxAndCart();
        x.text(1000, 0, false, 0);
        x.jury(0, 35);
        for (int d = 1; d < 5; d++) {
            die(x, GOES, 0, 0, SURE, MOVES, 0, 1, SURE, STRIKES, 2, 0, SURE);
            x.jury(d, d == 1 ? 36 : 35);
        }
        answers(x, 0, "habit", 0, 1500, 1500);
        Check.due("upper() of four CUT of five", x.upper(), 3);
        Check.due("lower() of four CUT of five", x.lower(), 16);
        x.jury(1, 35);
        answers(x, 1, "habit", 0, 1500, 1500);
        Check.due("upper() of five CUT of five", x.upper(), 1);
        Check.due("lower() of five CUT of five", x.lower(), 32);
        keeps(x, 0, "worstPlace", 1000, 1900);
        tells(x, 5, 5 * (72 - 35), "shortfall", 1000, 1900);
    }

    private static void lords() {
        says("Terms", "lords with grants against the king;");
        ForfeitBook x = oxAndCart();
        x.text(1000, 3, false, 0);
        x.grant(5, 0, 1500, 1500, 1 << 1, 7);
        tells(x, 9, 300, "taker", 0, 0);
        tells(x, 5, 42, "taker", 0, 1);
        keeps(x, NONE, "taker", 0, 2);
        tells(x, 1, 42, "takes", 5, 1500, 1500);
        tells(x, 1, 330, "takes", 9, 1500, 1500);
    }

    private static void newTexts() {
        says("Terms", "and new texts held against all old rolls.");
        ForfeitBook x = oxAndCart();
        die(x, STRIKES, 4, 0, SURE);
        x.death(7, 1000, NONE);
        x.act(2, FELL, 4, 0, true);
        x.text(1500, 1, true, 0);
        tells(x, 2, 0b101, "otherwise", 0, STOOD, 0);
        tells(x, 2, 0b011, "otherwise", 0, MOVED, 0);
        tells(x, 1, 0b010, "freed", 0, MOVED, 0);
        tells(x, 1, 960, "shift", 0, STOOD, 0, 10);
        tells(x, 1, 900, "shift", 0, STOOD, 0, 3);
        keeps(x, 100, "leastChange", 3, 0);
        keeps(x, NONE, "leastChange", 1, 0);
    }
}
