import java.io.IOException;
import java.lang.reflect.Executable;
import java.lang.reflect.Field;
import java.lang.reflect.Method;
import java.lang.reflect.Modifier;
import java.nio.file.Files;
import java.nio.file.Path;
import java.util.ArrayList;
import java.util.HashMap;
import java.util.HashSet;
import java.util.List;
import java.util.Map;
import java.util.Set;
import java.util.TreeSet;
import java.util.regex.Matcher;
import java.util.regex.Pattern;

/** The rules of ../shared/LANGUAGE.md that can be read off the program's text and its classes. */
public final class LanguageTest {
    private static final Path PROGRAM = Path.of("src/main/java/RegionNets.java");
    private static final String[] RULED_OUT = {
        "\\bpackage\\b", "\\bimport\\b", "->", "::", "\\btry\\b", "\\bcatch\\b", "\\bfinally\\b",
        "\\bsynchronized\\b", "\\bassert\\b", "\\bprotected\\b", "\\bMath\\b", "\\w+Exact\\b",
        "\\bwhile\\s*\\(\\s*true", "\\bSystem\\b", "\\bRandom\\b", "\\bThread\\b",
    };
    private static final Pattern METHOD = Pattern.compile("( {4,8})(?:[\\w\\[\\]]+ )*(\\w+)\\([^()]*\\) ?.*\\{");
    private static final Due DUE = new Due("LanguageTest");

    public static void main(String[] args) throws IOException {
        String source = Files.readString(PROGRAM);
        for (int i = 0; i < source.length(); i++) {
            if (source.charAt(i) > 126) {
                DUE.tell("a sign above 126 at " + i);
            }
        }
        String bare = source.replaceAll("\"[^\"\n]*\"", "\"\"")
            .replaceAll("(?s)/\\*.*?\\*/", " ").replaceAll("//[^\n]*", " ");
        for (String pattern : RULED_OUT) {
            DUE.is("\"" + pattern + "\" stands in the program", Pattern.compile(pattern).matcher(bare).find(), false);
        }
        lookAtNews(bare);
        lookAtLibrary(bare);
        Map<String, String> methods = methods(bare);
        lookAtLengths(methods);
        lookAtDepths(methods);
        lookAtSizes();
        DUE.end();
    }

    // All calls of a run share one room: nothing is made but in constructors, and exceptions.
    private static void lookAtNews(String bare) {
        Matcher news = Pattern.compile("(\\w+|=|\\S)\\s*\\bnew\\s+(\\w+)").matcher(bare);
        while (news.find()) {
            String made = news.group(2);
            boolean thrown = news.group(1).equals("throw") && made.endsWith("Exception");
            boolean part = made.equals("int") || made.equals("Steps") || made.equals("Regions") || made.equals("Net");
            DUE.is("new " + made + " is an exception or a part of the object", thrown || part, true);
        }
    }

    // Rule 4: of the library the program needs one function.
    private static void lookAtLibrary(String bare) {
        Matcher calls = Pattern.compile("\\b([A-Z]\\w*)\\s*\\.\\s*(\\w+)").matcher(bare);
        while (calls.find()) {
            DUE.isText("what is used of the library", calls.group(), "Integer.bitCount");
        }
    }

    /** By name: the lines of each method, with those of its body. */
    private static Map<String, String> methods(String bare) {
        Map<String, String> methods = new HashMap<>();
        String name = null;
        String end = null;
        StringBuilder body = new StringBuilder();
        for (String line : bare.split("\n")) {
            Matcher head = METHOD.matcher(line);
            if (name == null && head.matches()) {
                end = head.group(1) + "}";
                name = head.group(2);
                body.setLength(0);
            } else if (line.equals(end)) {
                DUE.is("two methods have the name " + name, methods.put(name, body.toString()) != null, false);
                name = null;
                end = null;
            } else if (name != null) {
                body.append(line).append('\n');
            }
        }
        return methods;
    }

    private static void lookAtLengths(Map<String, String> methods) {
        for (Map.Entry<String, String> method : methods.entrySet()) {
            int lines = method.getValue().split("\n").length + 2;
            DUE.is(method.getKey() + " has at most 60 lines", lines <= 60, true);
        }
    }

    private static void lookAtDepths(Map<String, String> methods) {
        Set<String> declared = new TreeSet<>();
        for (Class<?> one : classes()) {
            for (Method method : one.getDeclaredMethods()) {
                if (!method.isSynthetic()) {
                    declared.add(method.getName());
                }
            }
            declared.add(one.getSimpleName());
        }
        DUE.isText("the methods that the text shows", new TreeSet<>(methods.keySet()).toString(), declared.toString());
        for (String name : methods.keySet()) {
            int depth = depth(name, methods, new HashSet<>());
            DUE.is("calls of " + name + " go at most eight deep, not " + depth, depth <= 8, true);
        }
    }

    /** How many calls stand open at most, when this one is made; there is no recursion. */
    private static int depth(String name, Map<String, String> methods, Set<String> open) {
        if (!open.add(name)) {
            DUE.tell(name + " calls itself");
            return 0;
        }
        int most = 0;
        Matcher calls = Pattern.compile("\\b(\\w+)\\(").matcher(methods.get(name));
        while (calls.find()) {
            if (methods.containsKey(calls.group(1))) {
                most = Math.max(most, depth(calls.group(1), methods, open));
            }
        }
        open.remove(name);
        return most + 1;
    }

    private static List<Class<?>> classes() {
        List<Class<?>> classes = new ArrayList<>(List.of(RegionNets.class.getDeclaredClasses()));
        classes.add(RegionNets.class);
        return classes;
    }

    private static void lookAtSizes() {
        DUE.is("at most twelve classes", classes().size() <= 12, true);
        for (Class<?> one : classes()) {
            int fields = 0;
            for (Field field : one.getDeclaredFields()) {
                fields += Modifier.isStatic(field.getModifiers()) ? 0 : 1;
            }
            DUE.is(one + " has at most twenty fields", fields <= 20, true);
            List<Executable> all = new ArrayList<>(List.of(one.getDeclaredMethods()));
            all.addAll(List.of(one.getDeclaredConstructors()));
            for (Executable each : all) {
                DUE.is(each + " has at most seven parameters", each.getParameterCount() <= 7, true);
            }
        }
    }
}
