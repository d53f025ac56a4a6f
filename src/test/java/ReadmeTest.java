import java.io.IOException;
import java.lang.reflect.Method;
import java.lang.reflect.Modifier;
import java.net.URL;
import java.net.URLClassLoader;
import java.nio.file.Files;
import java.nio.file.Path;
import java.util.HashMap;
import java.util.Map;
import java.util.regex.Matcher;
import java.util.regex.Pattern;
import javax.tools.ToolProvider;

/** README.md: each call that it shows answers what stands behind it, and each call of the face is shown. */
public final class ReadmeTest {
    private static final Check CHECK = new Check("ReadmeTest");
    private static final Pattern CALL =
            Pattern.compile("(?m)^x\\.(\\w+)\\((.*?)\\);\\s*// (true|false|-?\\d+)\\b");

    public static void main(String[] args) throws Exception {
        String page = Files.readString(Path.of("README.md"));
        String[] java = {block(page, "java", 0), block(page, "java", 1), block(page, "java", 2)};
        Map<String, Method> face = face();

        makeCalls(java[0], new HiredShades(), face, 4);

        HiredShades x = new HiredShades();
        int statements = (int) compiled(java[1]).invoke(null, x, block(page, "text", 0));
        CHECK.due("guild() of the page's text", statements, 17);
        CHECK.due("fault(0) of the page's text", x.fault(0), 0);
        makeCalls(java[2], x, face, 30);

        for (String name : face.keySet()) {
            boolean isShown = Pattern.compile("\\b" + name + "\\(").matcher(page).find();
            CHECK.due("the page shows " + name, isShown, true);
        }
        CHECK.end();
    }

    private static Map<String, Method> face() {
        Map<String, Method> face = new HashMap<>();
        for (Method method : HiredShades.class.getDeclaredMethods()) {
            if (Modifier.isPublic(method.getModifiers())) {
                face.put(method.getName(), method);
            }
        }
        return face;
    }

    /** The n-th block of a kind, from 0. */
    private static String block(String page, String kind, int n) {
        Matcher found = Pattern.compile("```" + kind + "\n(.*?)```", Pattern.DOTALL).matcher(page);
        for (int k = 0; k <= n; k++) {
            CHECK.due("block " + k + " of " + kind, found.find(), true);
        }
        return found.group(1);
    }

    private static void makeCalls(String block, HiredShades x, Map<String, Method> face, int least)
            throws ReflectiveOperationException {
        Matcher call = CALL.matcher(block);
        int calls = 0;
        while (call.find()) {
            String told = call.group(1) + "(" + call.group(2) + ")";
            Object got = invoke(x, face.get(call.group(1)), call.group(2));
            boolean isDue = String.valueOf(got).equals(call.group(3));
            CHECK.due(told + " -> " + got + " as the page says, " + call.group(3), isDue, true);
            calls++;
        }
        long lines = block.lines().filter(line -> line.startsWith("x.")).count();
        CHECK.due("calls with their answers", calls, lines);
        CHECK.due("calls: " + calls, calls >= least, true);
    }

    private static Object invoke(HiredShades x, Method method, String told) throws ReflectiveOperationException {
        String[] words = told.isEmpty() ? new String[0] : told.split(", ");
        Object[] arguments = new Object[words.length];
        for (int k = 0; k < words.length; k++) {
            boolean isBoolean = method.getParameterTypes()[k] == boolean.class;
            arguments[k] = isBoolean ? (Object) Boolean.valueOf(words[k]) : (Object) Integer.decode(words[k]);
        }
        return method.invoke(x, arguments);
    }

    /** The page's way to feed a text, compiled as it stands there. */
    private static Method compiled(String tell) throws IOException, ReflectiveOperationException {
        Path made = Files.createTempDirectory("readme");
        Path source = made.resolve("Told.java");
        Files.writeString(source, "public final class Told {\n" + tell.replace("static int", "public static int") + "}\n");
        String classes = System.getProperty("java.class.path");
        int code = ToolProvider.getSystemJavaCompiler()
                .run(null, null, null, "-cp", classes, "-d", made.toString(), source.toString());
        CHECK.due("the page's tell compiles", code, 0);
        URLClassLoader loader = new URLClassLoader(new URL[] {made.toUri().toURL()}, ReadmeTest.class.getClassLoader());
        Method method = loader.loadClass("Told").getMethod("tell", HiredShades.class, String.class);
        Files.delete(source);
        Files.delete(made.resolve("Told.class"));
        Files.delete(made);
        return method;
    }
}
