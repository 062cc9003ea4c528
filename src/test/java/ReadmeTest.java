import java.io.IOException;
import java.lang.reflect.Method;
import java.nio.file.Files;
import java.nio.file.Path;
import java.util.HashSet;
import java.util.Set;
import java.util.regex.Matcher;
import java.util.regex.Pattern;

/** The example of README.md: each call there answers what its remark begins with, and each method is shown. */
public final class ReadmeTest {
    private static final Pattern CALL = Pattern.compile("^judge\\.(\\w+)\\(([-\\d, ]*)\\); *// (-?\\d+|true|false)\\b");

    public static void main(String[] args) throws IOException, ReflectiveOperationException {
        NothingJudge judge = new NothingJudge();
        Set<String> shown = new HashSet<>();
        int wrong = 0;
        for (String line : Files.readAllLines(Path.of("README.md"))) {
            Matcher matcher = CALL.matcher(line);
            if (matcher.find()) {
                shown.add(matcher.group(1));
                String got = String.valueOf(call(judge, matcher.group(1), matcher.group(2)));
                wrong += got.equals(matcher.group(3)) ? 0 : tell(line + " [answered " + got + "]");
            } else if (line.startsWith("judge.")) {
                wrong += tell("no answer stands behind " + line);
            }
        }
        for (Method method : NothingJudge.class.getMethods()) {
            if (method.getDeclaringClass() == NothingJudge.class && !shown.contains(method.getName())) {
                wrong += tell("README.md doesn't show " + method.getName());
            }
        }
        System.out.println(wrong == 0 ? "README.md's calls answer as it says" : wrong + " faults of README.md");
        System.exit(wrong == 0 ? 0 : 1);
    }

    private static int tell(String what) {
        System.out.println(what);
        return 1;
    }

    private static Object call(NothingJudge judge, String name, String numbers) throws ReflectiveOperationException {
        String[] parts = numbers.isBlank() ? new String[0] : numbers.split(",");
        Class<?>[] types = new Class<?>[parts.length];
        Object[] values = new Object[parts.length];
        for (int k = 0; k < parts.length; k++) {
            types[k] = int.class;
            values[k] = Integer.valueOf(parts[k].strip());
        }
        return NothingJudge.class.getMethod(name, types).invoke(judge, values);
    }
}
