import java.io.DataInputStream;
import java.io.IOException;
import java.io.InputStream;
import java.lang.reflect.Array;
import java.lang.reflect.Executable;
import java.lang.reflect.Field;
import java.lang.reflect.Modifier;
import java.nio.file.Files;
import java.nio.file.Path;
import java.util.ArrayDeque;
import java.util.ArrayList;
import java.util.Arrays;
import java.util.Collections;
import java.util.Deque;
import java.util.IdentityHashMap;
import java.util.List;
import java.util.Set;
import java.util.TreeSet;
import java.util.regex.Matcher;
import java.util.regex.Pattern;
import java.util.stream.Collectors;
import java.util.stream.Stream;

/**
 * The rules of ../shared/LANGUAGE.md, by their numbers, as far as the source and the compiled classes show them;
 * FaceTest has rule 1.
 */
public final class LanguageTest {
    private static final Path FOLDER = Path.of("src/main/java");
    private static final Path SOURCE = FOLDER.resolve("DeltaPlayfield.java");

    /** What the program uses of the library, all of it allowed by rule 4. */
    private static final Set<String> LIBRARY = Set.of("java/lang/Object.<init>", "java/lang/Math.abs",
            "java/lang/Math.max", "java/lang/Math.min", "java/lang/System.arraycopy");

    private static final Set<Class<?>> CONSTANTS = Set.of(int.class, long.class, boolean.class, char.class,
            String.class, int[].class, long[].class, char[].class, byte[].class);

    private final Checks checks = new Checks();
    private final List<Class<?>> classes = new ArrayList<>();

    private LanguageTest() {
        Deque<Class<?>> open = new ArrayDeque<>(List.of(DeltaPlayfield.class));
        while (!open.isEmpty()) {
            Class<?> next = open.remove();
            classes.add(next);
            open.addAll(Arrays.asList(next.getDeclaredClasses()));
        }
    }

    public static void main(String[] args) throws IOException, IllegalAccessException {
        LanguageTest test = new LanguageTest();
        test.oneFileWithoutPackage();
        test.wordsThatAreRuledOut();
        test.methodsAreShort();
        test.onlyTheListedLibrary();
        test.sizesOfClassesAndMethods();
        test.staticFieldsAreConstants();
        test.whatIsKeptDoesNotGrow();
        test.checks.end();
    }

    private void oneFileWithoutPackage() throws IOException {
        try (Stream<Path> files = Files.walk(FOLDER)) {
            List<Path> found = files.filter(Files::isRegularFile).collect(Collectors.toList());
            checks.yes("one file: " + found, found.equals(List.of(SOURCE)));
        }
        checks.no("rule 4: a package or import line", has("(?m)^\\s*(package|import)\\b"));
    }

    private void wordsThatAreRuledOut() throws IOException {
        checks.no("rule 2: a lambda or a method reference", has("->|::"));
        checks.no("rule 3: an array of two dimensions", has("\\]\\s*\\["));
        checks.no("rule 5: a static initialiser block", has("static\\s*\\{"));
        checks.no("rule 6: exceptions", has("\\b(throw|throws|try|catch|finally)\\b"));
        checks.no("rule 6: synchronized or assert", has("\\b(synchronized|assert)\\b"));
        checks.no("rule 6: equals, hashCode or toString", has("\\b(equals|hashCode|toString)\\b"));
        checks.no("rule 9: a loop without a counter", has("\\bwhile\\b|;\\s*;"));
    }

    /** The program without its comments; it has no texts in which a comment could seem to begin. */
    private static String code() throws IOException {
        return Files.readString(SOURCE).replaceAll("(?s)/\\*.*?\\*/", "").replaceAll("//[^\n]*", "");
    }

    private static boolean has(String pattern) throws IOException {
        return Pattern.compile(pattern).matcher(code()).find();
    }

    private void methodsAreShort() throws IOException {
        Matcher method = Pattern.compile("(?m)^( +)(?!.*\\bclass\\b)[A-Za-z].*\\) \\{\n(?s:.*?)^\\1\\}").matcher(code());
        int found = 0;
        while (method.find()) {
            found++;
            String text = method.group();
            checks.yes("rule 11: at most sixty lines: " + text, text.lines().count() <= 60);
        }
        checks.yes("methods were found", found > 30);
    }

    private void sizesOfClassesAndMethods() {
        checks.yes("rule 11: at most twelve classes", classes.size() <= 12);
        for (Class<?> owner : classes) {
            long fields = Arrays.stream(owner.getDeclaredFields())
                    .filter(field -> !Modifier.isStatic(field.getModifiers())).count();
            checks.yes("rule 11: at most twenty fields in " + owner, fields <= 20);
            List<Executable> methods = new ArrayList<>(Arrays.asList(owner.getDeclaredMethods()));
            methods.addAll(Arrays.asList(owner.getDeclaredConstructors()));
            for (Executable method : methods) {
                checks.yes("rule 11: at most seven parameters of " + method, method.getParameterCount() <= 7);
            }
        }
    }

    private void staticFieldsAreConstants() {
        for (Class<?> owner : classes) {
            for (Field field : owner.getDeclaredFields()) {
                if (Modifier.isStatic(field.getModifiers())) {
                    checks.yes("rule 5: final: " + field, Modifier.isFinal(field.getModifiers()));
                    checks.yes("rule 5: a constant's type: " + field, CONSTANTS.contains(field.getType()));
                }
            }
        }
    }

    private void onlyTheListedLibrary() throws IOException {
        for (Class<?> owner : classes) {
            for (String used : usedBy(owner)) {
                checks.yes("rule 4: " + owner.getName() + " uses " + used,
                        used.startsWith("DeltaPlayfield") || LIBRARY.contains(used));
            }
        }
    }

    /** The methods and fields, as Class.name, that stand in the constant pool of a compiled class. */
    private static Set<String> usedBy(Class<?> owner) throws IOException {
        try (InputStream file = owner.getResourceAsStream(owner.getName() + ".class");
                DataInputStream in = new DataInputStream(file)) {
            in.readInt();
            in.readInt();
            int count = in.readUnsignedShort();
            String[] texts = new String[count];
            int[][] links = new int[count][];
            Set<String> used = new TreeSet<>();
            for (int i = 1; i < count; i++) {
                int tag = in.readUnsignedByte();
                if (tag == 1) {
                    texts[i] = in.readUTF();
                } else if (tag == 7 || tag == 8) {
                    links[i] = new int[] {tag, in.readUnsignedShort()};
                } else if (tag >= 9 && tag <= 12) {
                    links[i] = new int[] {tag, in.readUnsignedShort(), in.readUnsignedShort()};
                } else if (tag == 3 || tag == 4) {
                    in.readInt();
                } else if (tag == 5 || tag == 6) {
                    in.readLong();
                    i++;
                } else {
                    used.add("a constant of kind " + tag);
                    return used;
                }
            }
            for (int[] link : links) {
                if (link != null && link[0] >= 9 && link[0] <= 11) {
                    used.add(texts[links[link[1]][1]] + "." + texts[links[link[2]][1]]);
                }
            }
            return used;
        }
    }

    /** Rule 12: what an object keeps after a long run is what it was made with. */
    private void whatIsKeptDoesNotGrow() throws IllegalAccessException {
        DeltaPlayfield x = new DeltaPlayfield();
        long[] made = kept(x);
        for (int round = 0; round < 50; round++) {
            int c = round % 3;
            x.input(c, round % 5);
            x.input(c, round % 4);
            x.report(c);
            x.deliver(x.flight() - 1);
            x.tick();
            x.deliver(round % 7);
            x.copy(round % 2);
            x.lose(round % 9);
            x.predicted(c);
        }
        long[] after = kept(x);
        checks.due("objects and arrays kept", made[0], after[0]);
        checks.due("fields and elements kept", made[1], after[1]);
        checks.yes("a thousand objects at most: " + made[0], made[0] <= 1000);
        checks.yes("ten thousand fields and elements at most: " + made[1], made[1] <= 10000);
    }

    /** How many objects and arrays can be reached from an object, and how many fields and elements they have. */
    private static long[] kept(DeltaPlayfield x) throws IllegalAccessException {
        Set<Object> reached = Collections.newSetFromMap(new IdentityHashMap<>());
        Deque<Object> open = new ArrayDeque<>(List.of(x));
        long parts = 0;
        while (!open.isEmpty()) {
            Object next = open.remove();
            if (!reached.add(next)) {
                continue;
            }
            for (Object part : next.getClass().isArray() ? elements(next) : fields(next)) {
                parts++;
                if (part != null && !(part instanceof Number) && !(part instanceof Boolean)) {
                    open.add(part);
                }
            }
        }
        return new long[] {reached.size(), parts};
    }

    private static List<Object> elements(Object array) {
        List<Object> found = new ArrayList<>();
        for (int i = 0; i < Array.getLength(array); i++) {
            found.add(Array.get(array, i));
        }
        return found;
    }

    private static List<Object> fields(Object owner) throws IllegalAccessException {
        List<Object> found = new ArrayList<>();
        for (Field field : owner.getClass().getDeclaredFields()) {
            if (!Modifier.isStatic(field.getModifiers())) {
                field.setAccessible(true);
                found.add(field.get(owner));
            }
        }
        return found;
    }
}
