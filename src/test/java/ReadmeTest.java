import java.io.IOException;
import java.lang.reflect.Method;
import java.lang.reflect.Modifier;
import java.nio.file.DirectoryStream;
import java.nio.file.Files;
import java.nio.file.Path;
import java.util.ArrayList;
import java.util.List;
import java.util.regex.Matcher;
import java.util.regex.Pattern;

/** README.md tells what is so: its example's answers, the names of the face, and the tests. */
public final class ReadmeTest {
    private static final Pattern CALL = Pattern.compile("nets\\.(\\w+)\\(([-0-9, ]*)\\);\\s*// (.*)");
    private static final Pattern ANSWER = Pattern.compile("(-?[0-9]+(?:\\.[0-9]+)?|true|false)(?::.*|)");
    private static final Due DUE = new Due("ReadmeTest");

    public static void main(String[] args) throws IOException, ReflectiveOperationException {
        String text = Files.readString(Path.of("README.md"));
        List<String> example = example(text);
        DUE.is("the example has calls", example.size() > 5, true);
        play(example);
        for (Method method : RegionNets.class.getDeclaredMethods()) {
            if (Modifier.isPublic(method.getModifiers())) {
                isNamed(text, method.getName());
            }
        }
        try (DirectoryStream<Path> tests = Files.newDirectoryStream(Path.of("src/test/java"), "*Test.java")) {
            for (Path test : tests) {
                isNamed(text, test.getFileName().toString().replace(".java", ""));
            }
        }
        DUE.end();
    }

    private static void isNamed(String text, String name) {
        DUE.is("README.md names " + name, text.contains("`" + name + "`"), true);
    }

    private static List<String> example(String text) {
        List<String> lines = new ArrayList<>();
        boolean inside = false;
        for (String line : text.split("\n")) {
            if (line.startsWith("```")) {
                inside = line.equals("```java");
            } else if (inside && line.startsWith("nets.")) {
                lines.add(line);
            }
        }
        return lines;
    }

    private static void play(List<String> example) throws ReflectiveOperationException {
        RegionNets nets = new RegionNets();
        for (String line : example) {
            Matcher call = CALL.matcher(line);
            if (!call.matches()) {
                DUE.tell("no call is told by " + line);
                continue;
            }
            Object got = answer(nets, call.group(1), call.group(2));
            Matcher answer = ANSWER.matcher(call.group(3));
            DUE.is(line + " tells an answer", answer.matches(), true);
            if (answer.matches()) {
                DUE.isText(line, String.valueOf(got), answer.group(1));
            }
        }
    }

    private static Object answer(RegionNets nets, String name, String numbers) throws ReflectiveOperationException {
        String[] told = numbers.isEmpty() ? new String[0] : numbers.split(", ");
        Class<?>[] types = new Class<?>[told.length];
        Object[] args = new Object[told.length];
        for (int i = 0; i < told.length; i++) {
            types[i] = int.class;
            args[i] = Integer.parseInt(told[i]);
        }
        return RegionNets.class.getMethod(name, types).invoke(nets, args);
    }
}
