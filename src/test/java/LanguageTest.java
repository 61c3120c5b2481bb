import java.lang.reflect.Constructor;
import java.lang.reflect.Field;
import java.lang.reflect.Method;
import java.lang.reflect.Modifier;
import java.nio.file.Files;
import java.nio.file.Path;
import java.util.ArrayList;
import java.util.Arrays;
import java.util.List;
import java.util.Set;
import java.util.TreeSet;
import java.util.regex.Matcher;
import java.util.regex.Pattern;

/** Those rules of ../shared/LANGUAGE.md that can be seen in the source text and in the compiled classes. */
public final class LanguageTest {
    private static final Due due = new Due();
    private static final String FACE = "feed back read place units rule scale flaw steps cut seen take hair slide index look"
            + " state run broke where moves value factor clear fewest order step marks chart thread design shown strike"
            + " guesses guess sure odd count";

    public static void main(String[] args) throws Exception {
        String source = Files.readString(Path.of("src/main/java/SlideWorks.java"));
        String code = withoutTexts(source);
        words(code);
        lengths(code);
        face();
        nested();
        due.close();
    }

    /** The source without comments, and with empty texts and signs. */
    private static String withoutTexts(String source) {
        StringBuilder out = new StringBuilder();
        for (int i = 0; i < source.length(); i++) {
            char c = source.charAt(i);
            if (source.startsWith("//", i)) {
                i = source.indexOf('\n', i) - 1;
            } else if (source.startsWith("/*", i)) {
                i = source.indexOf("*/", i) + 1;
            } else if (c == '"' || c == '\'') {
                out.append(c).append(c);
                for (i++; source.charAt(i) != c; i++) {
                    i += source.charAt(i) == '\\' ? 1 : 0;
                }
            } else {
                out.append(c);
            }
        }
        return out.toString();
    }

    private static void words(String code) {
        due.promise("rules 2 to 6, 13: words");
        String[] banned = {"\\bthrow\\b", "\\bthrows\\b", "\\btry\\b", "\\bcatch\\b", "\\bsynchronized\\b", "\\bassert\\b",
            "->", "::", "\\bimport\\b", "\\bpackage\\b", "\\bprotected\\b", "\\bvar\\b", "\\bObject\\b", "\\bSystem\\.(?!arraycopy)",
            "\\bThread\\b", "\\bRandom\\b", "\\bhashCode\\b", "\\btoString\\b", "Exact\\b", "\\bstatic\\s*\\{",
            "\\bString\\s*\\[", "\\bnew\\s+\\w+\\s*\\([^)]*\\)\\s*\\{", "\\bfinalize\\b", "\\bvolatile\\b", "\\bnative\\b",
            "\\btransient\\b", "\\bstrictfp\\b", "@"};
        for (String each : banned) {
            Matcher found = Pattern.compile(each).matcher(code);
            due.is("uses of " + each, found.find(), false);
        }
        Matcher upper = Pattern.compile("\\b(Math|Integer|Long|Arrays|System)\\.(\\w+)").matcher(code);
        Set<String> known = new TreeSet<>(Arrays.asList("max", "min", "abs", "floorDiv", "floorMod", "arraycopy"));
        while (upper.find()) {
            due.is("library: " + upper.group(), known.contains(upper.group(2)), true);
        }
        for (char c : code.toCharArray()) {
            if (c > 126 || c < 32 && c != '\n') {
                due.is("sign " + (int) c, 1, 0);
            }
        }
    }

    private static void lengths(String code) {
        due.promise("rule 11: lengths");
        Matcher head = Pattern.compile("\n {4,8}(?:public |private |static |final )*[\\w\\[\\]]+ ?\\w*\\(([^)]*)\\) \\{\n").matcher(code);
        int methods = 0;
        while (head.find()) {
            methods++;
            int end = head.end();
            for (int depth = 1; depth > 0; end++) {
                depth += code.charAt(end) == '{' ? 1 : code.charAt(end) == '}' ? -1 : 0;
            }
            String body = code.substring(head.start(), end);
            due.is("lines of" + head.group().trim(), body.split("\n").length <= 60, true);
            due.is("parameters of" + head.group().trim(), head.group(1).split(",").length <= 7, true);
        }
        due.is("methods found", methods > 100, true);
    }

    private static void face() {
        due.promise("rule 1: the face");
        Class<?> c = SlideWorks.class;
        due.is("public and final", Modifier.isPublic(c.getModifiers()) && Modifier.isFinal(c.getModifiers()), true);
        Set<String> names = new TreeSet<>(Arrays.asList(FACE.split(" ")));
        Set<String> found = new TreeSet<>();
        for (Method each : c.getDeclaredMethods()) {
            if (Modifier.isPublic(each.getModifiers())) {
                found.add(each.getName());
            } else if (!each.isSynthetic()) {
                due.is("private " + each.getName(), Modifier.isPrivate(each.getModifiers()), true);
                due.is("named as a public one: " + each.getName(), names.contains(each.getName()), false);
            }
        }
        due.is("methods " + found, found.equals(names), true);
        Constructor<?>[] made = c.getDeclaredConstructors();
        due.is("constructors", made.length == 1 && Modifier.isPublic(made[0].getModifiers()), true);
        for (Field each : c.getDeclaredFields()) {
            due.is("field " + each.getName(), each.getName().equals("NONE") || Modifier.isPrivate(each.getModifiers()), true);
        }
    }

    private static void nested() {
        due.promise("rules 2, 5, 11: classes and fields");
        List<Class<?>> all = new ArrayList<>(Arrays.asList(SlideWorks.class.getDeclaredClasses()));
        due.is("classes", all.size() + 1 <= 12, true);
        Set<String> names = new TreeSet<>(Arrays.asList(FACE.split(" ")));
        all.add(SlideWorks.class);
        for (Class<?> each : all) {
            due.is("static " + each, each == SlideWorks.class || Modifier.isStatic(each.getModifiers()), true);
            due.is("classes inside " + each, each == SlideWorks.class || each.getDeclaredClasses().length == 0, true);
            int fields = 0;
            for (Field field : each.getDeclaredFields()) {
                boolean fixed = Modifier.isStatic(field.getModifiers());
                fields += fixed ? 0 : 1;
                due.is("final " + field, !fixed || Modifier.isFinal(field.getModifiers()), true);
                due.is("kind of " + field, !fixed || field.getType().isPrimitive() || field.getType() == int[].class, true);
            }
            due.is("fields of " + each + ": " + fields, fields <= 20, true);
            for (Method method : each.getDeclaredMethods()) {
                boolean free = each == SlideWorks.class || !names.contains(method.getName());
                due.is("named as a public one: " + method, free, true);
            }
        }
    }
}
