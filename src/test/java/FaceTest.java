import java.io.IOException;
import java.lang.management.ManagementFactory;
import java.lang.reflect.Constructor;
import java.lang.reflect.Field;
import java.lang.reflect.Method;
import java.lang.reflect.Modifier;
import java.nio.file.Files;
import java.nio.file.Path;
import java.util.ArrayList;
import java.util.Arrays;
import java.util.List;
import java.util.TreeSet;
import java.util.regex.Matcher;
import java.util.regex.Pattern;
import java.util.stream.Collectors;

/** The public face of the document, the rules of LANGUAGE.md that can be looked up, and the room. */
public final class FaceTest {
    private static final Check CHECK = new Check("FaceTest");
    private static final Path SOURCE = Path.of("src/main/java/HiredShades.java");
    private static final Path DOCUMENT = Path.of("../shared/DOC.md");

    public static void main(String[] args) throws IOException {
        hasTheFace();
        hidesAllElse();
        keepsToTheLanguage();
        makesNothingInCalls();
        CHECK.end();
    }

    private static void same(String what, Object got, Object want) {
        if (!got.equals(want)) {
            System.out.println(what + ": " + got + ", due is " + want);
        }
        CHECK.due(what, got.equals(want), true);
    }

    private static void hasTheFace() throws IOException {
        String document = Files.readString(DOCUMENT);
        Matcher block = Pattern.compile("```java\n(.*?)```", Pattern.DOTALL).matcher(document);
        TreeSet<String> want = new TreeSet<>();
        block.find();
        Matcher told = Pattern.compile("public (int|boolean) (\\w+)\\((.*?)\\);").matcher(block.group(1));
        while (told.find()) {
            String types = Arrays.stream(told.group(3).split(",")).map(p -> p.trim().split(" ")[0])
                    .collect(Collectors.joining(","));
            want.add(told.group(1) + " " + told.group(2) + "(" + types + ")");
        }
        CHECK.due("methods of the document", want.size(), 32);
        TreeSet<String> got = new TreeSet<>();
        for (Method method : HiredShades.class.getDeclaredMethods()) {
            if (!Modifier.isPrivate(method.getModifiers())) {
                CHECK.due(method + " is public", Modifier.isPublic(method.getModifiers()), true);
                CHECK.due(method + " is of an object", Modifier.isStatic(method.getModifiers()), false);
                String types = Arrays.stream(method.getParameterTypes()).map(Class::getName)
                        .collect(Collectors.joining(","));
                got.add(method.getReturnType() + " " + method.getName() + "(" + types + ")");
            }
        }
        same("the face", got, want);
        CHECK.due("NONE", HiredShades.NONE, -1);
    }

    private static void hidesAllElse() {
        Class<?> outer = HiredShades.class;
        CHECK.due("public and final", outer.getModifiers(), Modifier.PUBLIC | Modifier.FINAL);
        for (Field field : outer.getDeclaredFields()) {
            boolean isNone = field.getName().equals("NONE");
            CHECK.due(field + " is private", Modifier.isPrivate(field.getModifiers()), !isNone);
        }
        Constructor<?>[] made = outer.getDeclaredConstructors();
        CHECK.due("constructors", made.length, 1);
        CHECK.due("a public constructor", made[0].getModifiers(), Modifier.PUBLIC);
        List<Class<?>> all = new ArrayList<>(List.of(outer.getDeclaredClasses()));
        CHECK.due("classes", all.size() < 12, true);
        all.add(outer);
        TreeSet<String> publicNames = Arrays.stream(outer.getDeclaredMethods())
                .filter(m -> Modifier.isPublic(m.getModifiers())).map(Method::getName)
                .collect(Collectors.toCollection(TreeSet::new));
        for (Class<?> each : all) {
            int fields = 0;
            for (Field field : each.getDeclaredFields()) {
                boolean isStatic = Modifier.isStatic(field.getModifiers());
                CHECK.due(field + " static and final", !isStatic || Modifier.isFinal(field.getModifiers()), true);
                fields += isStatic ? 0 : 1;
            }
            CHECK.due("fields of " + each, fields <= 20, true);
            for (Method method : each.getDeclaredMethods()) {
                CHECK.due(method + " parameters", method.getParameterCount() <= 7, true);
                boolean isOwn = each == outer && Modifier.isPublic(method.getModifiers());
                CHECK.due(method + " bears no public name", isOwn || !publicNames.contains(method.getName()), true);
            }
            if (each != outer) {
                CHECK.due(each + " is static", Modifier.isStatic(each.getModifiers()), true);
            }
        }
    }

    private static void keepsToTheLanguage() throws IOException {
        String source = Files.readString(SOURCE).replaceAll("(?s)/\\*.*?\\*/", " ").replaceAll("//[^\n]*", " ");
        String code = source.replaceAll("\"[^\"\n]*\"", "\"\"");
        for (String word : new String[] {"throw", "try", "catch", "finally", "synchronized", "assert", "import",
            "package", "throws", "volatile", "goto", "yield", "var", "hashCode", "toString", "->", "::", "@"}) {
            String pattern = Character.isLetter(word.charAt(0)) ? "\\b" + word + "\\b" : Pattern.quote(word);
            CHECK.due("'" + word + "' in the source", Pattern.compile(pattern).matcher(code).find(), false);
        }
        for (char c : source.toCharArray()) {
            CHECK.due("sign " + (int) c, c == '\n' || (c >= 32 && c < 127), true);
        }
        usesItsLibraryAlone(code);
        hasShortMethods(code);
    }

    private static void usesItsLibraryAlone(String code) {
        List<String> free = List.of("Math.max", "Math.min", "Math.abs", "Math.floorDiv", "Math.floorMod",
                "Integer.bitCount", "System.arraycopy", "Arrays.fill", "Arrays.copyOf");
        Matcher used = Pattern.compile("\\b(?:Math|Integer|Long|System|Arrays|String|Character|Object)\\.\\w+")
                .matcher(code);
        while (used.find()) {
            CHECK.due(used.group() + " is in LANGUAGE.md", free.contains(used.group()), true);
        }
    }

    /** A method begins and ends with lines of one indent: four blanks outside, eight in a class inside. */
    private static void hasShortMethods(String code) {
        String[] lines = code.split("\n");
        int methods = 0;
        for (int first = 0; first < lines.length; first++) {
            boolean isMethod = lines[first].matches(" {4}(?: {4})?[A-Za-z].*\\) \\{")
                    && !lines[first].matches(" {8}(?:if|for|while|switch|do)\\b.*");
            if (!isMethod) {
                continue;
            }
            String end = lines[first].startsWith("        ") ? "        }" : "    }";
            int last = first;
            while (last < lines.length && !lines[last].equals(end)) {
                last++;
            }
            CHECK.due("short: " + lines[first].trim(), last - first < 60, true);
            methods++;
        }
        CHECK.due("methods: " + methods, methods > 100, true);
    }

    private static int callAll(HiredShades x) {
        int sum = 0;
        for (int n = 0; n < 4; n++) {
            sum += x.has(n) + x.letter(n, 0, 0) + x.trait(0, n, 2) + x.seen(n, n) + x.far(0, n) + x.pass(0, n);
            sum += x.price(0, n) + x.best(n, true, 0) + x.whose(n, 0) + x.canBe(0, n) + x.chain(0, n) + x.shades(-1);
            sum += x.must(n) + x.clash(n) + x.could(0, 5, true) + x.ways(0) + x.crew(7, 0, n) + x.crowd(0, 5, 2, n);
            sum += x.shade(0, n) + x.days(100, 0) + x.average() + x.image() + x.octet(n) + x.take(1 << n, 0);
            sum += (x.hire(n, 0) ? 1 : 0) + (x.undo() ? 1 : 0) + (x.on() ? 1 : 0) + (x.seed(n) ? 1 : 0) + x.fault(0);
        }
        sum += x.feed(0x74726169, 0x74732061, 0x20312032, 0x3b202020, 0x20202020) + x.guild();
        return sum;
    }

    /** All calls of a run live in one room: what a call needs is made with the object. */
    private static void makesNothingInCalls() {
        com.sun.management.ThreadMXBean threads =
                (com.sun.management.ThreadMXBean) ManagementFactory.getThreadMXBean();
        long thread = Thread.currentThread().getId();
        HiredShades[] some = new HiredShades[20];
        for (int n = 0; n < some.length; n++) {
            some[n] = Guilds.made(Guilds.SMALL);
        }
        callAll(some[0]);
        threads.getThreadAllocatedBytes(thread);
        long before = threads.getThreadAllocatedBytes(thread);
        int sum = 0;
        for (int n = 1; n < some.length; n++) {
            sum += callAll(some[n]);
        }
        long made = threads.getThreadAllocatedBytes(thread) - before;
        // Some 2,400 calls; a little may be the machine's own.
        CHECK.due("bytes made by calls: " + made + " (" + sum + ")", made < 4096, true);
    }
}
