import java.lang.reflect.InvocationTargetException;
import java.lang.reflect.Method;
import java.nio.file.Files;
import java.nio.file.Path;
import java.util.regex.Matcher;
import java.util.regex.Pattern;

/** Each line of README.md's example answers what stands behind it, and each call of the face is told there. */
public final class ReadmeTest {
    private static final Pattern CALL = Pattern.compile("h\\.(\\w+)\\((.*)\\);\\s+// (throws \\w+|-?\\w+)(:.*)?");

    private static int wrong = 0;

    private static void complain(String text) {
        wrong++;
        System.out.println("README.md: " + text);
    }

    public static void main(String[] args) throws Exception {
        String readme = Files.readString(Path.of("README.md"));
        SandHouse h = new SandHouse();
        int lines = 0;
        for (String line : readme.split("\n")) {
            if (line.startsWith("h.")) {
                lines++;
                check(h, line);
            }
        }
        for (Method m : SandHouse.class.getMethods()) {
            if (m.getDeclaringClass() == SandHouse.class && !readme.contains("`" + m.getName() + "`")) {
                complain(m.getName() + " is not told");
            }
        }
        if (lines < 20) {
            complain("the example has " + lines + " lines");
        }
        System.out.println(lines + " lines of the example, " + wrong + " faults");
        if (wrong != 0) {
            System.exit(1);
        }
    }

    private static void check(SandHouse h, String line) throws Exception {
        Matcher call = CALL.matcher(line);
        if (!call.matches()) {
            complain("no call with its answer: " + line);
            return;
        }
        String got = answer(h, call.group(1), call.group(2).isEmpty() ? new String[0] : call.group(2).split(", "));
        if (!got.equals(call.group(3))) {
            complain(line + " answered " + got);
        }
    }

    private static String answer(SandHouse h, String name, String[] told) throws Exception {
        for (Method m : SandHouse.class.getMethods()) {
            if (m.getName().equals(name) && m.getParameterCount() == told.length) {
                Object[] arguments = new Object[told.length];
                for (int i = 0; i < told.length; i++) {
                    boolean flag = m.getParameterTypes()[i] == boolean.class;
                    arguments[i] = flag ? (Object) Boolean.valueOf(told[i]) : (Object) Long.decode(told[i]).intValue();
                }
                try {
                    return String.valueOf(m.invoke(h, arguments));
                } catch (InvocationTargetException e) {
                    return "throws " + e.getCause().getClass().getSimpleName();
                }
            }
        }
        return "no such call";
    }
}
