import java.io.IOException;
import java.lang.reflect.Constructor;
import java.lang.reflect.Field;
import java.lang.reflect.Method;
import java.lang.reflect.Modifier;
import java.nio.file.Files;
import java.nio.file.Path;
import java.util.ArrayList;
import java.util.HashSet;
import java.util.List;
import java.util.Set;
import java.util.TreeSet;
import java.util.regex.Matcher;
import java.util.regex.Pattern;

/** The public face of the document, and the rules of LANGUAGE.md that the source's words show. */
public final class LanguageTest {
    private static final Path SOURCE = Path.of("src/main/java/UndeleteDesks.java");

    private static final String[] FACE = {
        "write(int,int,int,int)", "delete(int)", "wipe(int)", "wipeAll()", "fileOf(int,int)", "pageOf(int,int)",
        "journalOf(int,int)", "guessOf(int,int)", "claim(int,int)", "bestGuesses(int)", "would(int,int,int)",
        "gentlest(int)", "count(int)", "undo()", "type(int)", "clearText()", "fault(int)", "play()"};

    private static final String[] CONSTANTS = {"INVALID_ARGUMENT", "NOT_POSSIBLE", "LIMIT_REACHED", "NOT_FOUND"};

    private static final String[] BANNED_WORDS = {"import", "package", "throw", "throws", "try", "catch", "finally",
        "synchronized", "assert", "volatile", "transient", "native", "lambda", "var", "yield", "Object", "equals",
        "hashCode", "getClass", "Random", "Thread", "nanoTime", "currentTimeMillis", "getenv", "getProperty",
        "addExact", "subtractExact", "multiplyExact", "toIntExact", "protected", "wait", "notify"};

    private static final Set<String> LIBRARY = Set.of("Math.max", "Math.min", "Long.bitCount", "System.arraycopy");

    /** The words of the interface, each with the calls behind it. */
    private static final String[] GROUPS = {"---- files", "write", "delete", "wipe", "wipeAll", "fileOf", "pageOf",
        "journalOf", "---- guesses", "guessOf", "claim", "bestGuesses", "would", "gentlest", "count", "undo",
        "---- texts", "type", "clearText", "fault", "play"};

    private static int wrong = 0;

    public static void main(String[] args) throws IOException {
        face();
        constants();
        innerClasses();
        groups();
        words();
        library();
        lengths();
        objects();
        System.out.println(wrong == 0 ? "the rules are kept" : wrong + " rules are broken");
        if (wrong != 0) {
            System.exit(1);
        }
    }

    private static void check(boolean kept, String rule) {
        if (!kept) {
            wrong++;
            System.out.println("broken: " + rule);
        }
    }

    private static String signature(Method method) {
        List<String> types = new ArrayList<>();
        for (Class<?> type : method.getParameterTypes()) {
            types.add(type.getName());
        }
        return method.getName() + "(" + String.join(",", types) + ")";
    }

    private static void face() {
        Class<?> desks = UndeleteDesks.class;
        check(Modifier.isPublic(desks.getModifiers()) && Modifier.isFinal(desks.getModifiers()), "public final class");
        Set<String> found = new TreeSet<>();
        for (Method method : desks.getDeclaredMethods()) {
            if (Modifier.isPrivate(method.getModifiers())) {
                continue;
            }
            found.add(signature(method));
            check(Modifier.isPublic(method.getModifiers()) && !Modifier.isStatic(method.getModifiers())
                    && method.getReturnType() == int.class, "public int " + signature(method));
        }
        check(found.equals(new TreeSet<>(List.of(FACE))), "the methods of the face, and no others: " + found);
        Constructor<?>[] constructors = desks.getDeclaredConstructors();
        check(constructors.length == 1 && Modifier.isPublic(constructors[0].getModifiers())
                && constructors[0].getParameterCount() == 0, "one constructor");
    }

    private static void constants() {
        Set<String> found = new TreeSet<>();
        for (Field field : UndeleteDesks.class.getDeclaredFields()) {
            int modifiers = field.getModifiers();
            check(!Modifier.isStatic(modifiers) || Modifier.isFinal(modifiers), field.getName() + " is final");
            if (!Modifier.isPrivate(modifiers)) {
                found.add(field.getName());
                check(Modifier.isPublic(modifiers) && Modifier.isStatic(modifiers) && field.getType() == int.class,
                        "public static final int " + field.getName());
            }
        }
        check(found.equals(new TreeSet<>(List.of(CONSTANTS))), "the constants of the face, and no others: " + found);
        check(UndeleteDesks.INVALID_ARGUMENT == -1000001, "INVALID_ARGUMENT");
        check(UndeleteDesks.NOT_POSSIBLE == -1000002, "NOT_POSSIBLE");
        check(UndeleteDesks.LIMIT_REACHED == -1000003, "LIMIT_REACHED");
        check(UndeleteDesks.NOT_FOUND == -1000004, "NOT_FOUND");
    }

    private static void innerClasses() {
        Set<String> faceNames = new HashSet<>();
        for (String signature : FACE) {
            faceNames.add(signature.substring(0, signature.indexOf('(')));
        }
        Class<?>[] inner = UndeleteDesks.class.getDeclaredClasses();
        check(inner.length <= 11, "some twelve classes");
        for (Class<?> one : inner) {
            int modifiers = one.getModifiers();
            check(Modifier.isStatic(modifiers) && !Modifier.isPublic(modifiers) && !Modifier.isProtected(modifiers),
                    one.getName() + " is static and not public");
            check(one.getDeclaredFields().length <= 20, one.getName() + " has some twenty fields");
            for (Field field : one.getDeclaredFields()) {
                check(!Modifier.isStatic(field.getModifiers()), "no static state: " + field);
            }
            for (Method method : one.getDeclaredMethods()) {
                check(!faceNames.contains(method.getName()), "no other method is named " + method.getName());
                check(method.getParameterCount() <= 7, "seven parameters: " + method.getName());
            }
        }
        for (Method method : UndeleteDesks.class.getDeclaredMethods()) {
            check(!Modifier.isPrivate(method.getModifiers()) || !faceNames.contains(method.getName()),
                    "no private method is named " + method.getName());
        }
    }

    private static String withoutComments(String source) {
        return source.replaceAll("(?s)/\\*.*?\\*/", " ").replaceAll("//[^\n]*", " ");
    }

    private static void words() throws IOException {
        String source = withoutComments(Files.readString(SOURCE));
        for (String word : BANNED_WORDS) {
            check(!Pattern.compile("\\b" + word + "\\b").matcher(source).find(), "the word " + word);
        }
        check(!source.contains("->") && !source.contains("::"), "no lambda, no method reference");
        check(!source.contains("\""), "no texts");
        check(!source.contains("@"), "no annotations");
    }

    private static void groups() throws IOException {
        String source = Files.readString(SOURCE);
        List<String> found = new ArrayList<>();
        Matcher heads = Pattern.compile("\n    (?:// (---- \\w+)\n|public int (\\w+)\\()").matcher(source);
        while (heads.find()) {
            found.add(heads.group(1) == null ? heads.group(2) : heads.group(1));
        }
        check(found.equals(List.of(GROUPS)), "the calls in the groups of the interface: " + found);
    }

    private static void library() throws IOException {
        Matcher use = Pattern.compile("\\b[A-Z]\\w*\\.\\w+").matcher(withoutComments(Files.readString(SOURCE)));
        while (use.find()) {
            check(LIBRARY.contains(use.group()), "of the library: " + use.group());
        }
    }

    /** All objects are made with the desk, so that calls leave the room as it is. */
    private static void objects() throws IOException {
        for (String line : withoutComments(Files.readString(SOURCE)).split("\n")) {
            check(!line.matches(".*\\bnew\\b.*") || line.strip().startsWith("private final ")
                    || line.strip().equals("states[k] = new Disk();"), "a call makes an object: " + line.strip());
        }
    }

    /** A method starts at a line with its opening brace, and ends at the brace that closes it. */
    private static void lengths() throws IOException {
        List<String> lines = Files.readAllLines(SOURCE);
        Pattern head = Pattern.compile("^( {4}| {8})(?!.*\\bclass\\b)[a-zA-Z].*\\) \\{$");
        int methods = 0;
        for (int start = 0; start < lines.size(); start++) {
            Matcher matcher = head.matcher(lines.get(start));
            if (!matcher.matches() || lines.get(start).matches(" {8}(if|for|while|switch) .*")) {
                continue;
            }
            int end = start;
            while (end < lines.size() && !lines.get(end).equals(matcher.group(1) + "}")) {
                end++;
            }
            methods++;
            check(end - start < 60, "a method of sixty lines at line " + (start + 1));
        }
        check(methods > FACE.length, "methods were found");
    }
}
