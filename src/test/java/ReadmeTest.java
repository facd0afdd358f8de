import java.io.IOException;
import java.lang.reflect.Field;
import java.lang.reflect.Method;
import java.lang.reflect.Modifier;
import java.nio.file.Files;
import java.nio.file.Path;
import java.util.regex.Matcher;
import java.util.regex.Pattern;

/** README.md: each line of its examples answers what it says, and it tells of all calls and errors. */
public final class ReadmeTest {
    private static final Path README = Path.of("README.md");
    private static final String NEW_DESK = "UndeleteDesks desk = new UndeleteDesks();";
    private static final Pattern EXAMPLE = Pattern.compile("```java\n(.*?)```", Pattern.DOTALL);
    private static final Pattern CALL =
            Pattern.compile("desk\\.(\\w+)\\(([-\\d, ]*)\\); +// (-?\\d+|[A-Z_]+)(: .*)?");
    private static final Pattern TYPED =
            Pattern.compile("for \\(char sign : \"(.*)\"\\.toCharArray\\(\\)\\) \\{ desk\\.type\\(sign\\); \\}");

    private static int wrong = 0;

    public static void main(String[] args) throws IOException {
        String readme = Files.readString(README);
        examples(readme);
        calls(readme);
        errors(readme);
        check(readme.contains("at most 512 calls"), "of how many calls an object is used for");
        check(readme.contains("several threads"), "of several threads");
        if (wrong != 0) {
            System.exit(1);
        }
        Sentences.end();
    }

    private static void check(boolean holds, String what) {
        if (!holds) {
            wrong++;
            System.out.println("README.md does not tell " + what);
        }
    }

    private static void examples(String readme) {
        Matcher example = EXAMPLE.matcher(readme);
        int examples = 0;
        while (example.find()) {
            examples++;
            String[] code = example.group(1).split("\n");
            check(code[0].equals(NEW_DESK), "how to make the object of example " + examples);
            StringBuilder lines = new StringBuilder();
            for (int k = 1; k < code.length; k++) {
                lines.append(line(code[k])).append('\n');
            }
            Sentences.test("README.md, example " + examples, lines.toString());
        }
        check(examples == 3, "an example of each group of calls");
    }

    private static String line(String code) {
        Matcher typed = TYPED.matcher(code);
        if (typed.matches()) {
            return "text " + typed.group(1);
        }
        Matcher call = CALL.matcher(code);
        check(call.matches(), "what this line answers: " + code);
        return call.matches()
                ? call.group(1) + " " + call.group(2).replace(",", "") + " = " + call.group(3) : "";
    }

    /** Each call is the head of a row, with as many arguments as it takes. */
    private static void calls(String readme) {
        for (Method method : UndeleteDesks.class.getDeclaredMethods()) {
            if (Modifier.isPublic(method.getModifiers())) {
                Matcher row = Pattern.compile("\n\\| `" + method.getName() + "\\(([^)]*)\\)` \\|").matcher(readme);
                boolean told = row.find();
                check(told, "what " + method.getName() + " does");
                int named = told && !row.group(1).isEmpty() ? row.group(1).split(", ").length : 0;
                check(named == method.getParameterCount(), "the arguments of " + method.getName());
            }
        }
    }

    private static void errors(String readme) throws IOException {
        for (Field field : UndeleteDesks.class.getDeclaredFields()) {
            if (Modifier.isPublic(field.getModifiers())) {
                check(readme.contains("\n| `" + field.getName() + "` | " + value(field) + " | "),
                        "what " + field.getName() + " means");
            }
        }
    }

    private static int value(Field field) throws IOException {
        try {
            return field.getInt(null);
        } catch (IllegalAccessException e) {
            throw new IOException(e);
        }
    }
}
