import java.lang.reflect.Field;
import java.lang.reflect.Method;
import java.lang.reflect.Modifier;
import java.nio.file.Files;
import java.nio.file.Path;
import java.util.ArrayList;
import java.util.Arrays;
import java.util.List;
import java.util.Random;
import java.util.TreeSet;
import java.util.regex.Matcher;
import java.util.regex.Pattern;
import java.util.stream.Stream;

/** The public face, what LANGUAGE.md says of it, and that no call ever throws, whatever its arguments are. */
public final class FaceTest {
    private static final Due due = new Due();

    private static final String[] METHODS = {"clerk 3", "of 2", "desk 2", "rule 2", "type 1", "office 0", "count 1", "minutes 1", "shake 2",
        "lay 1", "light 1", "drift 1", "undo 0", "seed 1", "ahead 2", "pay 1", "falls 3", "worst 2", "enough 2", "seats 3", "stop 5", "luck 3",
        "image 0", "restore 0", "whence 5", "film 4", "sheet 3", "drop 1", "item 4", "copy 5"};
    private static final String[] CONSTANTS = {"BAD", "NOT", "FULL", "NONE", "NULL", "CAST", "INDEX", "SIZE"};

    public static void main(String[] args) throws Exception {
        methods();
        fields();
        words();
        library();
        edgeTests();
        neverThrows();
        due.end();
    }

    private static void methods() {
        due.holds("the class is public and final", Modifier.isPublic(AshClerks.class.getModifiers()) && Modifier.isFinal(AshClerks.class.getModifiers()));
        due.is("constructors", AshClerks.class.getDeclaredConstructors().length, 1);
        due.is("public constructors without arguments", AshClerks.class.getConstructors()[0].getParameterCount(), 0);
        TreeSet<String> names = new TreeSet<>();
        TreeSet<String> face = new TreeSet<>();
        for (Method m : AshClerks.class.getDeclaredMethods()) {
            if (Modifier.isPublic(m.getModifiers())) {
                face.add(m.getName() + " " + m.getParameterCount());
                names.add(m.getName());
                due.holds(m + " is of the object and answers an int", m.getReturnType() == int.class && !Modifier.isStatic(m.getModifiers()));
            }
        }
        due.holds("the public methods are those of the document: " + face, face.equals(new TreeSet<>(Arrays.asList(METHODS))));
        List<Class<?>> all = new ArrayList<>(List.of(AshClerks.class.getDeclaredClasses()));
        due.holds("some twelve classes at most", all.size() < 12);
        all.add(AshClerks.class);
        for (Class<?> type : all) {
            for (Method m : type.getDeclaredMethods()) {
                boolean open = type == AshClerks.class && Modifier.isPublic(m.getModifiers());
                due.holds(m + " bears no public method's name", open || !names.contains(m.getName()));
                due.holds(m + " is private", open || type != AshClerks.class || Modifier.isPrivate(m.getModifiers()));
                due.holds(m + " has seven parameters at most", m.getParameterCount() <= 7);
            }
        }
    }

    private static void fields() {
        TreeSet<String> constants = new TreeSet<>();
        for (Field f : AshClerks.class.getDeclaredFields()) {
            if (Modifier.isPublic(f.getModifiers())) {
                constants.add(f.getName());
                due.holds(f + " is a constant", Modifier.isStatic(f.getModifiers()) && Modifier.isFinal(f.getModifiers()) && f.getType() == int.class);
            } else {
                due.holds(f + " is private", Modifier.isPrivate(f.getModifiers()));
            }
            due.holds(f + " is final, if it is static", !Modifier.isStatic(f.getModifiers()) || Modifier.isFinal(f.getModifiers()));
        }
        due.holds("the constants are those of the document", constants.equals(new TreeSet<>(Arrays.asList(CONSTANTS))));
    }

    private static void words() throws Exception {
        String text = Files.readString(Path.of("src/main/java/AshClerks.java"));
        String[] never = {"import ", "package ", "catch", "throw ", "finally", "synchronized", "assert ", "->", "::", "double", "float",
            "System.out", "Exact(", "while (true)", "for (;;)"};
        for (String word : never) {
            due.holds("the class has no '" + word + "'", !text.contains(word));
        }
    }

    /** Of the library, the class uses nothing but what rule 4 of LANGUAGE.md lists and this names. */
    private static void library() throws Exception {
        List<String> used = List.of("System.arraycopy", "Math.max", "Math.min", "Math.abs", "Integer.bitCount");
        Matcher dotted = Pattern.compile("\\b[A-Z]\\w*\\.\\w+").matcher(code());
        while (dotted.find()) {
            due.holds(dotted.group() + " is in the library that is left", used.contains(dotted.group()));
        }
        Matcher made = Pattern.compile("new (\\w+)").matcher(code());
        List<String> own = List.of("Room", "Past", "Tape", "Seating", "Sheet", "int", "long");
        while (made.find()) {
            due.holds("new " + made.group(1) + " is of the class's own or a row of numbers", own.contains(made.group(1)));
        }
    }

    /** The class without its comments. */
    private static String code() throws Exception {
        String text = Files.readString(Path.of("src/main/java/AshClerks.java"));
        return text.replaceAll("(?s)/\\*.*?\\*/", "").replaceAll("//[^\n]*", "");
    }

    /** Each promise and each part of 'Terms' has edge tests, named after it. */
    private static void edgeTests() throws Exception {
        StringBuilder all = new StringBuilder();
        try (Stream<Path> files = Files.list(Path.of("src/test/java"))) {
            for (Path file : files.filter(f -> f.toString().endsWith("EdgeTest.java")).toList()) {
                all.append(Files.readString(file));
            }
        }
        for (int promise = 1; promise <= 31; promise++) {
            String start = "static void promise" + promise / 10 + promise % 10;
            due.holds("there is an edge test of promise " + promise, all.indexOf(start) >= 0);
        }
        for (String part : new String[] {"terms", "part1", "part2", "part3"}) {
            due.holds("there is an edge test of " + part, all.indexOf("static void " + part) >= 0);
        }
    }

    private static void neverThrows() {
        for (int run = 0; run < 400; run++) {
            Random random = new Random(run);
            AshClerks x = new AshClerks();
            for (int call = 0; call < 2000; call++) {
                try {
                    anyCall(x, random);
                } catch (RuntimeException e) {
                    e.printStackTrace(System.out);
                    due.holds("a call threw in run " + run, false);
                    return;
                }
            }
        }
        due.holds("no call threw", true);
    }

    private static int any(Random random) {
        switch (random.nextInt(8)) {
            case 0:
                return random.nextInt();
            case 1:
                int[] edges = {Integer.MIN_VALUE, Integer.MIN_VALUE + 1, Integer.MAX_VALUE, Integer.MAX_VALUE - 1, -1, 24, 25, 99, 100};
                return edges[random.nextInt(edges.length)];
            case 2:
                return random.nextInt(130) - 5;
            default:
                return random.nextInt(8);
        }
    }

    private static void anyCall(AshClerks x, Random r) {
        int a = any(r), b = any(r), c = any(r), d = any(r), e = any(r);
        switch (r.nextInt(31)) {
            case 0: x.clerk(a, b, c); break;
            case 1: x.of(a, b); break;
            case 2: x.desk(a, b); break;
            case 3: x.rule(a, b); break;
            case 4: x.type(a); break;
            case 5: x.office(); break;
            case 6: x.count(a); break;
            case 7: x.minutes(a); break;
            case 8: x.shake(a, b); break;
            case 9: x.lay(a); break;
            case 10: x.light(a); break;
            case 11: x.drift(a); break;
            case 12: x.undo(); break;
            case 13: x.seed(a); break;
            case 14: x.ahead(a, b); break;
            case 15: x.pay(a); break;
            case 16: x.falls(a, b, c); break;
            case 17: x.worst(a, b); break;
            case 18: x.enough(a, b); break;
            case 19: x.seats(a, b, c); break;
            case 20: x.stop(a, b, c, d, e); break;
            case 21: x.luck(a, b, c); break;
            case 22: x.image(); break;
            case 23: x.restore(); break;
            case 24: x.whence(a, b, c, d, e); break;
            case 25: x.film(a, b, c, d); break;
            case 26: x.sheet(a, b, c); break;
            case 27: x.drop(a); break;
            case 28: x.item(a, b, c, (long) d << 16 ^ e); break;
            case 29: x.copy(a, b, c, d, e); break;
            default: typed(x, r);
        }
    }

    private static void typed(AshClerks x, Random r) {
        int letters = r.nextInt(72);
        for (int k = 0; k < letters; k++) {
            x.type("12;p01/9x, nsco".charAt(r.nextInt(15)));
        }
        x.office();
    }
}
