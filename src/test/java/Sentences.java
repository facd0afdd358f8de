import java.util.ArrayList;
import java.util.Arrays;
import java.util.List;
import java.util.Map;
import java.util.Set;

/**
 * Tests written as lines of calls: each is under the sentence of the document to which it holds the class, and
 * makes a new object. The steps of a line:
 *
 * <pre>
 * write 0 3 4 0 = 0         a call and the answer that is due; without one: any answer but an error
 * keeps count 0 = 40        a call after which the state must be as it was; each call that is due to
 *                           answer with an error is such a one, also without the word
 * undoes wipe 0 = 1         a change that undo takes back wholly; it is done
 * delete 0 / delete 1       several steps
 * # in 0..3 9: wipe # = 0   steps for each of the numbers; beside # also #+2 and 9-#
 * lowest 4, highest 4       only so many pages are free then, the journal is empty; first of all, on a new object
 * pages 0 = 3 4             the pages of a file, and that it has no more
 * page 3 = 1 2 6 - 4 - 1    the seven answers of pageOf; "-" is NOT_FOUND
 * entry 0 = 5 39 6          the three answers of journalOf
 * guess 0 = 135 2 0 6 5 1 0 0 : 3 4    the first eight answers of guessOf, the pages, and that it has no more
 * guesses 3                 so many guesses there are
 * counts = 40 0 0 ..        the answers of count
 * text w0,1,2;              the text is this, to the end of the line
 * faulty 7 3                the text has a fault there for this reason, and play is not possible
 * faultless                 the text has none
 * </pre>
 */
final class Sentences {
    private static final Map<String, Integer> WORDS = Map.of("INVALID_ARGUMENT", -1000001,
            "NOT_POSSIBLE", -1000002, "LIMIT_REACHED", -1000003, "NOT_FOUND", -1000004, "-", -1000004,
            "LEAST", Integer.MIN_VALUE, "MOST", Integer.MAX_VALUE);
    private static final int NOT_POSSIBLE = -1000002;
    private static final int NOT_FOUND = -1000004;
    private static final Set<String> CHANGING =
            Set.of("write", "delete", "wipe", "wipeAll", "claim", "undo", "type", "clearText", "play");
    /** What later calls answer is free. */
    private static final int CALLS = 512;
    /** What count is asked for the states of the history, and how many of them it keeps. */
    private static final int STATES = 11;
    private static final int MOST_STATES = 4;

    private static int tests = 0;
    private static int failed = 0;

    private record Call(String name, int... numbers) {
        int on(UndeleteDesks desk) {
            return switch (name) {
                case "write" -> desk.write(at(0), at(1), at(2), at(3));
                case "delete" -> desk.delete(at(0));
                case "wipe" -> desk.wipe(at(0));
                case "wipeAll" -> desk.wipeAll();
                case "fileOf" -> desk.fileOf(at(0), at(1));
                case "pageOf" -> desk.pageOf(at(0), at(1));
                case "journalOf" -> desk.journalOf(at(0), at(1));
                case "guessOf" -> desk.guessOf(at(0), at(1));
                case "claim" -> desk.claim(at(0), at(1));
                case "bestGuesses" -> desk.bestGuesses(at(0));
                case "would" -> desk.would(at(0), at(1), at(2));
                case "gentlest" -> desk.gentlest(at(0));
                case "count" -> desk.count(at(0));
                case "undo" -> desk.undo();
                case "type" -> desk.type(at(0));
                case "clearText" -> desk.clearText();
                case "fault" -> desk.fault(at(0));
                case "play" -> desk.play();
                default -> throw new IllegalArgumentException("no such step: " + name);
            };
        }

        private int at(int index) {
            if (index >= numbers.length) {
                throw new IllegalArgumentException("too few numbers for " + this);
            }
            return numbers[index];
        }

        @Override
        public String toString() {
            return name + Arrays.toString(numbers);
        }
    }

    /** Asks objects that had the same calls and undos, a new one whenever one has had its calls. */
    private static final class Asker {
        private final List<Call> calls;
        private final int undone;
        private UndeleteDesks desk;
        private int had;
        private int lastUndo;

        Asker(List<Call> calls, int undone) {
            this.calls = calls;
            this.undone = undone;
            renew();
        }

        private void renew() {
            desk = new UndeleteDesks();
            calls.forEach(call -> call.on(desk));
            lastUndo = 0;
            for (int k = 0; k < undone; k++) {
                lastUndo = desk.undo();
            }
            had = calls.size() + undone;
            if (had >= CALLS) {
                throw new IllegalArgumentException("too many calls to ask anything");
            }
        }

        int ask(String name, int... numbers) {
            if (had >= CALLS) {
                renew();
            }
            had++;
            return new Call(name, numbers).on(desk);
        }

        /** The answers from which the state can be told, but for the history, which is seen by undos. */
        List<Integer> portrait() {
            List<Integer> answers = new ArrayList<>();
            for (int page = 0; page < 40; page++) {
                for (int what = 0; what <= 6; what++) {
                    answers.add(ask("pageOf", page, what));
                }
            }
            for (int name = 0; name < 30; name++) {
                int pages = ask("fileOf", name, 1);
                answers.add(pages);
                for (int k = 0; k < pages; k++) {
                    answers.add(ask("fileOf", name, 10 + k));
                }
            }
            for (int index = 0; index < 6; index++) {
                for (int what = 0; what <= 2; what++) {
                    answers.add(ask("journalOf", index, what));
                }
            }
            for (int what = 0; what <= 12; what++) {
                if (what != STATES) {
                    answers.add(ask("count", what));
                }
            }
            for (int what = 0; what <= 1; what++) {
                answers.add(ask("bestGuesses", what));
                answers.add(ask("fault", what));
            }
            answers.add(ask("play"));
            return answers;
        }
    }

    private final String sentence;
    private final UndeleteDesks desk = new UndeleteDesks();
    /** The calls that changed something, so that the state can be made again. */
    private final List<Call> done = new ArrayList<>();
    /** The portraits of what is done so far, or null. */
    private List<List<Integer>> before;
    private int had = 0;
    private boolean wrong = false;

    private Sentences(String sentence) {
        this.sentence = sentence;
    }

    static void test(String sentence, String lines) {
        Sentences test = new Sentences(sentence);
        for (String line : lines.split("\n")) {
            if (!line.isBlank()) {
                test.line(line.strip());
            }
        }
        tests++;
        failed += test.wrong ? 1 : 0;
    }

    static void end() {
        System.out.println(tests + " sentences were tested, " + failed + " do not hold");
        if (failed != 0 || tests == 0) {
            System.exit(1);
        }
    }

    private void fail(String what) {
        if (!wrong) {
            System.out.println("\"" + sentence + "\"");
        }
        wrong = true;
        System.out.println("    " + what);
    }

    private void line(String line) {
        if (!line.startsWith("# in ")) {
            steps(line, 0);
            return;
        }
        int colon = line.indexOf(':');
        for (int value : values(line.substring("# in ".length(), colon))) {
            steps(line.substring(colon + 1).strip(), value);
        }
    }

    private static List<Integer> values(String words) {
        List<Integer> values = new ArrayList<>();
        for (String word : words.split(" ")) {
            int dots = word.indexOf("..");
            if (dots < 0) {
                values.add(number(word, 0));
                continue;
            }
            int last = number(word.substring(dots + 2), 0);
            for (int value = number(word.substring(0, dots), 0); value <= last; value++) {
                values.add(value);
            }
        }
        return values;
    }

    private static int number(String word, int value) {
        if (WORDS.containsKey(word)) {
            return WORDS.get(word);
        }
        if (word.equals("#")) {
            return value;
        }
        if (word.startsWith("#+")) {
            return value + Integer.parseInt(word.substring(2));
        }
        if (word.endsWith("-#")) {
            return Integer.parseInt(word.substring(0, word.length() - 2)) - value;
        }
        return Integer.parseInt(word);
    }

    private void steps(String steps, int value) {
        if (steps.startsWith("text ")) {
            text(steps.substring("text ".length()));
            return;
        }
        for (String step : steps.split(" / ")) {
            boolean keeps = step.startsWith("keeps ");
            boolean undoes = step.startsWith("undoes ");
            String call = keeps || undoes ? step.substring(step.indexOf(' ') + 1) : step;
            int equal = call.indexOf(" =");
            String[] asked = (equal < 0 ? call : call.substring(0, equal)).strip().split(" +");
            int[] numbers = numbers(String.join(" ", asked).substring(asked[0].length()), value);
            if (undoes) {
                compareUndone(new Call(asked[0], numbers));
            }
            step(asked[0], numbers, equal < 0 ? null : numbers(call.substring(equal + 2), value), keeps);
        }
    }

    private static int[] numbers(String words, int value) {
        return words.isBlank() ? new int[0] : Arrays.stream(words.strip().split(" +"))
                .filter(word -> !word.equals(":")).mapToInt(word -> number(word, value)).toArray();
    }

    private void step(String name, int[] numbers, int[] due, boolean keeps) {
        switch (name) {
            case "lowest" -> lowest(numbers[0]);
            case "highest" -> fill(0, 40 - numbers[0]);
            case "pages" -> {
                ask(due.length, "fileOf", numbers[0], 1);
                askPages("fileOf", numbers[0], due);
            }
            case "page" -> askAll("pageOf", numbers[0], due, 7);
            case "entry" -> askAll("journalOf", numbers[0], due, 3);
            case "guess" -> {
                askAll("guessOf", numbers[0], Arrays.copyOf(due, 8), 8);
                askPages("guessOf", numbers[0], Arrays.copyOfRange(due, 8, due.length));
            }
            case "guesses" -> {
                ask(numbers[0], "count", 3);
                ask(NOT_FOUND, "guessOf", numbers[0], 0);
            }
            case "counts" -> {
                for (int what = 0; what <= 12; what++) {
                    ask(due[what], "count", what);
                }
            }
            case "faulty" -> {
                ask(numbers[0], "fault", 0);
                ask(numbers[1], "fault", 1);
                call(new Call("play"), NOT_POSSIBLE, true);
            }
            case "faultless" -> {
                ask(NOT_FOUND, "fault", 0);
                ask(NOT_FOUND, "fault", 1);
            }
            default -> {
                if (due != null && due.length != 1) {
                    throw new IllegalArgumentException("one answer is due to " + name + " in " + sentence);
                }
                call(new Call(name, numbers), due == null ? null : due[0], keeps || due != null && due[0] < 0);
            }
        }
    }

    private void text(String signs) {
        call(new Call("clearText"), null, false);
        for (int k = 0; k < signs.length(); k++) {
            call(new Call("type", signs.charAt(k)), k + 1, false);
        }
    }

    /** Files 29, 28 and so on, of style 9, get the pages from one up to another, the lowest free ones. */
    private void fill(int from, int end) {
        int name = 29;
        for (int page = from; page < end; page += 12) {
            call(new Call("write", name, 9, Math.min(end - page, 12), 0), page, false);
            name--;
        }
    }

    private void lowest(int pages) {
        call(new Call("write", 0, 9, pages, 0), 0, false);
        fill(pages, 40);
        call(new Call("delete", 0), pages, false);
        call(new Call("wipeAll"), pages, false);
    }

    private void askAll(String name, int of, int[] due, int answers) {
        if (due.length != answers) {
            throw new IllegalArgumentException(answers + " answers are due to " + name + " in " + sentence);
        }
        for (int what = 0; what < answers; what++) {
            ask(due[what], name, of, what);
        }
    }

    private void askPages(String name, int of, int[] pages) {
        for (int k = 0; k < pages.length; k++) {
            ask(pages[k], name, of, 10 + k);
        }
        if (pages.length < 12) {
            ask(NOT_FOUND, name, of, 10 + pages.length);
        }
    }

    private void ask(int due, String name, int... numbers) {
        call(new Call(name, numbers), due, false);
    }

    private void call(Call call, Integer due, boolean keeps) {
        had++;
        if (had > CALLS) {
            throw new IllegalArgumentException("more than " + CALLS + " calls in " + sentence);
        }
        int answer = call.on(desk);
        if (due == null ? answer < 0 : answer != due) {
            fail(call + " answered " + answer + ", due is " + (due == null ? "no error" : due));
        }
        if (keeps) {
            compareState(call);
        } else if (CHANGING.contains(call.name())) {
            done.add(call);
            before = null;
        }
    }

    /** Compares objects that did not get the call with others that did, now and after each number of undos. */
    private void compareState(Call call) {
        if (!portraitsBefore().equals(portraits(doneAnd(call)))) {
            fail(call + " changed something");
        }
    }

    /** A change and its undo leave the history as it was, but for the oldest state, if there were 4. */
    private void compareUndone(Call call) {
        List<List<Integer>> due = new ArrayList<>(portraitsBefore());
        if (due.get(MOST_STATES).size() > 1) {
            due.remove(MOST_STATES);
            due.add(due.get(due.size() - 1));
        }
        if (!due.equals(portraits(doneAnd(call, new Call("undo"))))) {
            fail("undo did not take back " + call);
        }
    }

    private List<Call> doneAnd(Call... calls) {
        List<Call> more = new ArrayList<>(done);
        more.addAll(List.of(calls));
        return more;
    }

    private List<List<Integer>> portraitsBefore() {
        if (before == null) {
            before = portraits(done);
        }
        return before;
    }

    /** The state, those of the history from the latest one on, and the error of one undo more. */
    private static List<List<Integer>> portraits(List<Call> calls) {
        List<List<Integer>> portraits = new ArrayList<>();
        for (int undone = 0; undone <= MOST_STATES + 1; undone++) {
            Asker asker = new Asker(calls, undone);
            portraits.add(asker.lastUndo < 0 ? List.of(asker.lastUndo) : asker.portrait());
        }
        return portraits;
    }
}
