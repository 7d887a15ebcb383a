import java.lang.reflect.Constructor;
import java.lang.reflect.Field;
import java.lang.reflect.Method;
import java.lang.reflect.Modifier;
import java.nio.charset.StandardCharsets;
import java.nio.file.Files;
import java.nio.file.Path;
import java.util.List;
import java.util.Set;
import java.util.TreeSet;
import java.util.regex.Matcher;
import java.util.regex.Pattern;

/** What can be seen of the rules of LANGUAGE.md from the class's members and from the source's signs. */
final class LanguageTests {
    private static final Path SOURCE = Path.of("src/main/java/WitnessesMustLie.java");

    private static final Set<String> FACE = Set.of(
        "int trial(int)", "int law(int,int)", "int said(int,int)", "int knows(int)", "int isTrue(int,int,int,int)",
        "int rules(int,int,int)", "int says(int,int,int,int)", "int unsays()", "int witness(int)", "int truth(int)",
        "long worlds(int)", "int many(int)", "int proved(int)", "int slips(int)", "int alone(int)", "int clash()",
        "int proof(int)", "int slipped()", "int ask()", "int plain()", "int order(int)", "int without(int)",
        "int lie(int,int)", "int twoLies(int,int)", "int tells(int,int,int)", "int verdict()", "int certain(int)",
        "int knowsOf(int,int)", "int allKnow(int)", "long pencils(int,int,int)", "long fits(int)", "int judge(int)",
        "int seeds(int,int,int)", "int image()", "int restore()", "int count(int)", "int keep(int,int,int,int)",
        "int row(int,int,int)", "int put(int,int,int)",
        "long element(int,int) throws java.lang.IllegalArgumentException,java.lang.IllegalStateException",
        "int copy(int,int,int,int,int)", "int cost(int)", "int toss(int)");

    private static final List<String> NOT_IN_THE_LANGUAGE = List.of(
        "->", "::", "@", "finally", "synchronized", "assert ", "Exact(", "getMessage", "System.out", "nanoTime",
        "currentTimeMillis", "Random", "Thread", "NullPointerException", "IndexOutOfBounds", "ArithmeticException",
        "ClassCastException", "NegativeArraySize", "ArrayStoreException", "Throwable", "Error", "catch (Exception",
        "catch (RuntimeException", "hashCode", "toString", "getClass", "Math.sqrt", "String.format", "Stream");

    private final Checks checks;

    LanguageTests(Checks checks) {
        this.checks = checks;
    }

    void runAll() throws Exception {
        face();
        classesInside();
        source();
    }

    private void face() {
        checks.begin("the public face");
        Class<?> face = WitnessesMustLie.class;
        checks.holds("public and final", Modifier.isPublic(face.getModifiers()) && Modifier.isFinal(face.getModifiers()));
        Constructor<?>[] made = face.getDeclaredConstructors();
        checks.holds("one public constructor without parameters",
            made.length == 1 && Modifier.isPublic(made[0].getModifiers()) && made[0].getParameterCount() == 0);
        Set<String> shown = new TreeSet<>();
        Set<String> names = new TreeSet<>();
        for (Method method : face.getDeclaredMethods()) {
            if (!Modifier.isPrivate(method.getModifiers()) && !method.isSynthetic()) {
                names.add(method.getName());
                String text = method.toGenericString().replace("WitnessesMustLie.", "").replace(", ", ",");
                shown.add(text.replaceFirst("^public ", ""));
            }
        }
        checks.holds("just the methods of the document: " + shown, shown.equals(new TreeSet<>(FACE)));
        for (Method method : face.getDeclaredMethods()) {
            boolean isPrivate = Modifier.isPrivate(method.getModifiers());
            checks.holds(method + " has a name of its own", !isPrivate || !names.contains(method.getName()));
        }
        for (Field field : face.getDeclaredFields()) {
            checks.holds(field + " is private", Modifier.isPrivate(field.getModifiers()) || field.isSynthetic());
        }
    }

    private void classesInside() {
        checks.begin("the classes inside");
        Class<?>[] inside = WitnessesMustLie.class.getDeclaredClasses();
        checks.holds("some twelve classes", inside.length <= 12);
        for (Class<?> one : inside) {
            int modifiers = one.getModifiers();
            checks.holds(one + " is static and not public",
                Modifier.isStatic(modifiers) && !Modifier.isPublic(modifiers) && !Modifier.isProtected(modifiers));
            for (Field field : one.getDeclaredFields()) {
                boolean isFixed = !Modifier.isStatic(field.getModifiers()) || Modifier.isFinal(field.getModifiers());
                checks.holds(field + " is no static state", isFixed);
            }
        }
    }

    private void source() throws Exception {
        checks.begin("the source");
        String source = new String(Files.readAllBytes(SOURCE), StandardCharsets.ISO_8859_1);
        for (int i = 0; i < source.length(); i++) {
            if (source.charAt(i) > 126) {
                checks.holds("sign " + i + " is below 127", false);
            }
        }
        for (String sign : NOT_IN_THE_LANGUAGE) {
            checks.holds("without " + sign, !source.contains(sign));
        }
        Matcher imports = Pattern.compile("import ([^;]*);").matcher(source);
        while (imports.find()) {
            checks.holds("import " + imports.group(1), imports.group(1).equals("java.util.ArrayList"));
        }
        Matcher catches = Pattern.compile("catch \\((\\w+)").matcher(source);
        while (catches.find()) {
            checks.holds("catch " + catches.group(1), catches.group(1).equals("IllegalStateException"));
        }
        Matcher library = Pattern.compile("\\b(Integer|Long|Math|System|Arrays)\\.(\\w+)").matcher(source);
        Set<String> allowed = Set.of("bitCount", "numberOfTrailingZeros", "min", "max", "arraycopy");
        while (library.find()) {
            checks.holds("library " + library.group(), allowed.contains(library.group(2)));
        }
        methodLengths(source.split("\n"));
    }

    private void methodLengths(String[] lines) {
        int begun = -1;
        int deep = 0;
        for (int i = 0; i < lines.length; i++) {
            if (lines[i].matches("( {4}| {8})(\\w.*)\\(.*\\).* \\{") && begun < 0) {
                begun = i;
                deep = lines[i].indexOf(lines[i].trim());
            } else if (begun >= 0 && lines[i].equals(" ".repeat(deep) + "}")) {
                checks.holds("the method at line " + (begun + 1) + " is short", i - begun < 60);
                begun = -1;
            }
        }
    }
}
