import java.util.ArrayList;
import java.util.Comparator;
import java.util.HashSet;
import java.util.LinkedList;
import java.util.List;
import java.util.Map;
import java.util.Set;
import java.util.TreeMap;
import java.util.TreeSet;
import java.util.regex.Matcher;
import java.util.regex.Pattern;

/** The document said a second time, with the Java library and without thrift, to compare the class with. */
final class DeskModel {
    static final int INVALID = -1000001;
    static final int IMPOSSIBLE = -1000002;
    static final int LIMIT = -1000003;
    static final int MISSING = -1000004;

    /** What is on a page; length is 0 on a further page, next is null on the last one. */
    record Leaf(boolean first, int style, int length, Integer next) { }

    record FileRow(int style, List<Integer> pages) { }

    record Entry(int name, int first, int style) { }

    record Lost(int first, int style, List<Integer> pages, int missing, int chain, int neighbor, int score,
            Integer name) { }

    static final class State {
        final Map<Integer, Leaf> leaves = new TreeMap<>();
        final Map<Integer, FileRow> files = new TreeMap<>();
        final LinkedList<Entry> journal = new LinkedList<>();
        int written;
        int deleted;
        int claimed;

        State copy() {
            State other = new State();
            other.leaves.putAll(leaves);
            other.files.putAll(files);
            other.journal.addAll(journal);
            other.written = written;
            other.deleted = deleted;
            other.claimed = claimed;
            return other;
        }

        TreeSet<Integer> free() {
            TreeSet<Integer> free = new TreeSet<>();
            for (int page = 0; page < 40; page++) {
                free.add(page);
            }
            for (FileRow file : files.values()) {
                free.removeAll(file.pages());
            }
            return free;
        }

        /** The pages that a file gets; null if there are too few. */
        List<Integer> layout(int length, int layout) {
            List<Integer> free = new ArrayList<>(free());
            if (free.size() < length) {
                return null;
            }
            if (layout == 1) {
                for (int start = 0; start + length <= 40; start++) {
                    List<Integer> run = new ArrayList<>();
                    for (int k = 0; k < length; k++) {
                        run.add(start + k);
                    }
                    if (free.containsAll(run)) {
                        return run;
                    }
                }
            }
            if (layout == 2) {
                free.sort(Comparator.reverseOrder());
            }
            return new ArrayList<>(free.subList(0, length));
        }

        void put(int name, int style, List<Integer> pages) {
            files.put(name, new FileRow(style, pages));
            for (int k = 0; k < pages.size(); k++) {
                Integer next = k + 1 < pages.size() ? pages.get(k + 1) : null;
                leaves.put(pages.get(k), new Leaf(k == 0, style, k == 0 ? pages.size() : 0, next));
            }
        }

        List<Lost> guesses(Set<Integer> free) {
            List<Lost> all = new ArrayList<>();
            for (int page : free) {
                Leaf leaf = leaves.get(page);
                if (leaf != null && leaf.first()) {
                    all.add(guess(free, page));
                }
            }
            all.sort(Comparator.comparingInt((Lost g) -> -g.score()).thenComparingInt(Lost::first));
            return all;
        }

        private Lost guess(Set<Integer> free, int first) {
            Leaf head = leaves.get(first);
            List<Integer> pages = new ArrayList<>(List.of(first));
            int chain = 0;
            int neighbor = 0;
            while (pages.size() < head.length()) {
                int last = pages.get(pages.size() - 1);
                Integer told = leaves.get(last).next();
                if (told != null && continues(free, told, head.style(), pages)) {
                    pages.add(told);
                    chain++;
                } else if (continues(free, last + 1, head.style(), pages)) {
                    pages.add(last + 1);
                    neighbor++;
                } else {
                    break;
                }
            }
            Integer name = null;
            boolean exact = false;
            for (Entry e : journal) {
                if (!exact && e.first() == first && e.style() == head.style()) {
                    name = e.name();
                    exact = true;
                }
            }
            for (Entry e : journal) {
                if (name == null && e.style() == head.style()) {
                    name = e.name();
                }
            }
            int missing = head.length() - pages.size();
            int score = 10 + 10 * chain + 4 * neighbor - 6 * missing + (exact ? 15 : 0);
            return new Lost(first, head.style(), pages, missing, chain, neighbor, score, name);
        }

        private boolean continues(Set<Integer> free, int page, int style, List<Integer> soFar) {
            Leaf leaf = leaves.get(page);
            return page < 40 && free.contains(page) && leaf != null && !leaf.first() && leaf.style() == style
                    && !soFar.contains(page);
        }

        int write(int name, int style, int length, int layout) {
            if (files.containsKey(name)) {
                return IMPOSSIBLE;
            }
            List<Integer> pages = layout(length, layout);
            if (pages == null) {
                return LIMIT;
            }
            put(name, style, pages);
            written++;
            return pages.get(0);
        }

        int delete(int name) {
            FileRow file = files.remove(name);
            if (file == null) {
                return IMPOSSIBLE;
            }
            journal.addFirst(new Entry(name, file.pages().get(0), file.style()));
            if (journal.size() > 6) {
                journal.removeLast();
            }
            deleted++;
            return free().size();
        }

        int wipe(int page) {
            if (!free().contains(page)) {
                return IMPOSSIBLE;
            }
            Leaf leaf = leaves.remove(page);
            return leaf == null ? 0 : leaf.first() ? 1 : 2;
        }

        int wipeAll() {
            int marked = 0;
            for (int page : free()) {
                marked += leaves.remove(page) == null ? 0 : 1;
            }
            journal.clear();
            return marked;
        }

        int claim(int number, int name) {
            List<Lost> all = guesses(free());
            if (number >= all.size()) {
                return IMPOSSIBLE;
            }
            Lost guess = all.get(number);
            Integer under = name == -1 ? guess.name() : Integer.valueOf(name);
            if (under == null || files.containsKey(under)) {
                return IMPOSSIBLE;
            }
            put(under, guess.style(), guess.pages());
            claimed++;
            return guess.pages().size();
        }
    }

    private static final Pattern ORDER = Pattern.compile(
            "(?:(w)(\\d{1,2}),(\\d{1,2}),(\\d{1,2})|([dcz])(\\d{1,2}));");

    private State state = new State();
    private final LinkedList<State> history = new LinkedList<>();
    private final StringBuilder text = new StringBuilder();

    private static boolean in(int value, int low, int high) {
        return low <= value && value <= high;
    }

    private int change(State next, int answer) {
        if (answer >= 0) {
            history.addLast(state);
            if (history.size() == 5) {
                history.removeFirst();
            }
            state = next;
        }
        return answer;
    }

    int write(int name, int style, int length, int layout) {
        if (!in(name, 0, 29) || !in(style, 0, 9) || !in(length, 1, 12) || !in(layout, 0, 2)) {
            return INVALID;
        }
        State next = state.copy();
        return change(next, next.write(name, style, length, layout));
    }

    int delete(int name) {
        if (!in(name, 0, 29)) {
            return INVALID;
        }
        State next = state.copy();
        return change(next, next.delete(name));
    }

    int wipe(int page) {
        if (!in(page, 0, 39)) {
            return INVALID;
        }
        State next = state.copy();
        return change(next, next.wipe(page));
    }

    int wipeAll() {
        State next = state.copy();
        return change(next, next.wipeAll());
    }

    int fileOf(int name, int what) {
        if (!in(name, 0, 29) || !in(what, 0, 4) && !in(what, 10, 21)) {
            return INVALID;
        }
        FileRow file = state.files.get(name);
        if (file == null) {
            return MISSING;
        }
        List<Integer> pages = file.pages();
        switch (what) {
            case 0: return file.style();
            case 1: return pages.size();
            case 2: return pages.get(0);
            case 3: return pages.get(pages.size() - 1);
            case 4:
                for (int k = 1; k < pages.size(); k++) {
                    if (pages.get(k) != pages.get(0) + k) {
                        return 0;
                    }
                }
                return 1;
            default: return what - 10 < pages.size() ? pages.get(what - 10) : MISSING;
        }
    }

    int pageOf(int page, int what) {
        if (!in(page, 0, 39) || !in(what, 0, 6)) {
            return INVALID;
        }
        Leaf leaf = state.leaves.get(page);
        switch (what) {
            case 0: return state.free().contains(page) ? 1 : 0;
            case 1: return leaf == null ? 0 : leaf.first() ? 1 : 2;
            case 2: return leaf == null ? MISSING : leaf.style();
            case 3: return leaf == null || !leaf.first() ? MISSING : leaf.length();
            case 4: return leaf == null || leaf.next() == null ? MISSING : leaf.next();
            case 5:
                for (Map.Entry<Integer, FileRow> file : state.files.entrySet()) {
                    if (file.getValue().pages().contains(page)) {
                        return file.getKey();
                    }
                }
                return MISSING;
            default:
                return (int) state.guesses(state.free()).stream().filter(g -> g.pages().contains(page)).count();
        }
    }

    int journalOf(int index, int what) {
        if (index < 0 || !in(what, 0, 2)) {
            return INVALID;
        }
        if (index >= state.journal.size()) {
            return MISSING;
        }
        Entry entry = state.journal.get(index);
        return what == 0 ? entry.name() : what == 1 ? entry.first() : entry.style();
    }

    private static boolean share(Lost one, Lost other) {
        Set<Integer> both = new HashSet<>(one.pages());
        both.retainAll(other.pages());
        return !both.isEmpty();
    }

    int guessOf(int number, int what) {
        if (number < 0 || !in(what, 0, 7) && !in(what, 10, 21)) {
            return INVALID;
        }
        List<Lost> all = state.guesses(state.free());
        if (number >= all.size()) {
            return MISSING;
        }
        Lost guess = all.get(number);
        switch (what) {
            case 0: return guess.score() + 100;
            case 1: return guess.pages().size();
            case 2: return guess.missing();
            case 3: return guess.style();
            case 4: return guess.name() == null ? MISSING : guess.name();
            case 5: return guess.chain();
            case 6: return guess.neighbor();
            case 7: return (int) all.stream().filter(g -> g != guess && share(g, guess)).count();
            default: return what - 10 < guess.pages().size() ? guess.pages().get(what - 10) : MISSING;
        }
    }

    int claim(int guess, int name) {
        if (guess < 0 || !in(name, -1, 29)) {
            return INVALID;
        }
        State next = state.copy();
        return change(next, next.claim(guess, name));
    }

    int bestGuesses(int what) {
        if (!in(what, 0, 1)) {
            return INVALID;
        }
        List<Lost> all = state.guesses(state.free());
        int looked = Math.min(12, all.size());
        int best = 0;
        int bestSum = 0;
        for (int set = 1; set < 1 << looked; set++) {
            List<Integer> pages = new ArrayList<>();
            int sum = 0;
            for (int k = 0; k < looked; k++) {
                if ((set >> k & 1) == 1) {
                    pages.addAll(all.get(k).pages());
                    sum += all.get(k).score();
                }
            }
            if (sum > bestSum && new HashSet<>(pages).size() == pages.size()) {
                best = set;
                bestSum = sum;
            }
        }
        return what == 0 ? best : bestSum;
    }

    private static int sum(List<Lost> guesses) {
        return guesses.stream().mapToInt(Lost::score).sum();
    }

    int would(int length, int layout, int what) {
        if (!in(length, 1, 12) || !in(layout, 0, 2) || !in(what, 0, 3)) {
            return INVALID;
        }
        List<Integer> pages = state.layout(length, layout);
        if (pages == null) {
            return LIMIT;
        }
        Set<Integer> free = state.free();
        free.removeAll(pages);
        switch (what) {
            case 0: return pages.get(0);
            case 1: return (int) pages.stream().filter(p -> state.leaves.containsKey(p)).count();
            case 2: return state.guesses(free).size();
            default: return sum(state.guesses(free)) + 3000;
        }
    }

    int gentlest(int length) {
        if (!in(length, 1, 12)) {
            return INVALID;
        }
        if (state.free().size() < length) {
            return LIMIT;
        }
        int best = 0;
        for (int layout = 1; layout < 3; layout++) {
            if (would(length, layout, 3) > would(length, best, 3)) {
                best = layout;
            }
        }
        return best;
    }

    private List<Integer> runs() {
        List<Integer> runs = new ArrayList<>();
        Set<Integer> free = state.free();
        for (int page = 0; page < 40; page++) {
            if (free.contains(page) && !free.contains(page - 1)) {
                int end = page;
                while (free.contains(end)) {
                    end++;
                }
                runs.add(end - page);
            }
        }
        return runs;
    }

    int count(int what) {
        switch (what) {
            case 0: return state.free().size();
            case 1: return state.files.size();
            case 2: return (int) state.free().stream().filter(p -> state.leaves.containsKey(p)).count();
            case 3: return state.guesses(state.free()).size();
            case 4: return state.journal.size();
            case 5: return sum(state.guesses(state.free())) + 3000;
            case 6: return state.written;
            case 7: return state.deleted;
            case 8: return state.claimed;
            case 9: return runs().size();
            case 10: return runs().stream().mapToInt(r -> r).max().orElse(0);
            case 11: return history.size();
            case 12: return text.length();
            default: return INVALID;
        }
    }

    int undo() {
        if (history.isEmpty()) {
            return IMPOSSIBLE;
        }
        state = history.removeLast();
        return history.size();
    }

    int type(int character) {
        if (!in(character, 32, 126)) {
            return INVALID;
        }
        if (text.length() == 60) {
            return LIMIT;
        }
        text.append((char) character);
        return text.length();
    }

    int clearText() {
        int length = text.length();
        text.setLength(0);
        return length;
    }

    /** Does the orders on a state; the place and the reason of the fault, or null and how many there are. */
    private int[] run(State next, int[] orders) {
        Matcher matcher = ORDER.matcher(text);
        int at = 0;
        while (at < text.length()) {
            matcher.region(at, text.length());
            if (!matcher.lookingAt()) {
                return new int[] {at, 1};
            }
            int answer;
            if (matcher.group(1) != null) {
                int name = Integer.parseInt(matcher.group(2));
                int style = Integer.parseInt(matcher.group(3));
                int length = Integer.parseInt(matcher.group(4));
                if (name > 29 || style > 9 || length < 1 || length > 12) {
                    return new int[] {at, 2};
                }
                answer = next.write(name, style, length, 0);
            } else {
                String kind = matcher.group(5);
                int number = Integer.parseInt(matcher.group(6));
                if (kind.equals("d") && number > 29 || kind.equals("z") && number > 39) {
                    return new int[] {at, 2};
                }
                answer = kind.equals("d") ? next.delete(number)
                        : kind.equals("z") ? next.wipe(number) : next.claim(number, -1);
            }
            if (answer < 0) {
                return new int[] {at, 3};
            }
            orders[0]++;
            at = matcher.end();
        }
        return null;
    }

    int fault(int what) {
        if (!in(what, 0, 1)) {
            return INVALID;
        }
        int[] fault = run(state.copy(), new int[1]);
        return fault == null ? MISSING : fault[what];
    }

    int play() {
        State next = state.copy();
        int[] orders = new int[1];
        return run(next, orders) != null ? IMPOSSIBLE : change(next, orders[0]);
    }
}
