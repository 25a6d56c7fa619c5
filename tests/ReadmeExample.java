// Makes the calls that README.md shows, one after another, and compares the answers that it tells behind them.
import java.io.IOException;
import java.lang.reflect.Method;
import java.nio.file.Files;
import java.nio.file.Path;
import java.util.List;
import java.util.regex.Matcher;
import java.util.regex.Pattern;

public final class ReadmeExample {
    private static final String README = "README.md";
    private static final String FIRST = "TiltedCards x = new TiltedCards();";
    private static final Pattern CALL = Pattern.compile("x\\.(\\w+)\\((.*)\\); +// (-?\\d+|[A-Z_]+)(:.*)?");
    private static final int LEAST_CALLS = 20;

    private static int wrong = 0;

    private static void ask(boolean right, String what) {
        if (!right) {
            wrong++;
            System.out.println(README + ": " + what);
        }
    }

    private static Method methodOf(String name) {
        for (Method method : TiltedCards.class.getMethods()) {
            if (method.getName().equals(name)) {
                return method;
            }
        }
        throw new IllegalStateException("no method " + name);
    }

    private static Object[] argumentsOf(String list) {
        String[] words = list.isEmpty() ? new String[0] : list.split(", ");
        Object[] arguments = new Object[words.length];
        for (int i = 0; i < words.length; i++) {
            boolean isSign = words[i].startsWith("'");
            arguments[i] = isSign ? (Object) words[i].charAt(1) : (Object) Integer.valueOf(words[i]);
        }
        return arguments;
    }

    private static int numberOf(String answer) throws ReflectiveOperationException {
        boolean isName = Character.isLetter(answer.charAt(0));
        return isName ? TiltedCards.class.getField(answer).getInt(null) : Integer.parseInt(answer);
    }

    private static int makeCalls(List<String> lines) throws ReflectiveOperationException {
        TiltedCards x = new TiltedCards();
        int calls = 0;
        for (int i = lines.indexOf(FIRST) + 1; i < lines.size() && !lines.get(i).startsWith("```"); i++) {
            Matcher call = CALL.matcher(lines.get(i));
            if (!call.matches()) {
                ask(false, "this is no call with an answer: " + lines.get(i));
                continue;
            }
            Object got = methodOf(call.group(1)).invoke(x, argumentsOf(call.group(2)));
            ask(got.equals(numberOf(call.group(3))), lines.get(i) + " answered " + got);
            calls++;
        }
        return calls;
    }

    private static void names(String readme) {
        for (String act : new String[] {"colour", "addView", "removeView", "swap", "setPitch", "slice", "setShift",
            "setLean", "order", "read", "press", "restore"}) {
            ask(readme.contains("`" + act + "`"), "the act " + act + " is told");
        }
        ask(readme.contains(".ci/run"), "it tells how to run the tests");
    }

    private static void tests(String readme) {
        String[] files = Path.of("tests").toFile().list();
        ask(files != null && files.length > 0, "there are tests");
        for (String file : files == null ? new String[0] : files) {
            ask(!file.endsWith(".java") || readme.contains("`tests/" + file + "`"), "tests/" + file + " is told");
        }
    }

    public static void main(String[] args) throws IOException, ReflectiveOperationException {
        Path path = Path.of(README);
        List<String> lines = Files.readAllLines(path);
        ask(lines.contains(FIRST), "the example begins with " + FIRST);
        ask(makeCalls(lines) >= LEAST_CALLS, "at least " + LEAST_CALLS + " calls are shown");
        names(Files.readString(path));
        tests(Files.readString(path));
        System.out.println(wrong == 0 ? "what README.md shows is so" : wrong + " lines are wrong");
        if (wrong != 0) {
            System.exit(1);
        }
    }
}
