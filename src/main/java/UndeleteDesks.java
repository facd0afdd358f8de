/** An undelete office: a disk of pages, the files on it, and the guesses of lost ones. */
public final class UndeleteDesks {
    public static final int INVALID_ARGUMENT = -1000001;
    public static final int NOT_POSSIBLE = -1000002;
    public static final int LIMIT_REACHED = -1000003;
    public static final int NOT_FOUND = -1000004;

    private static final int PAGES = 40;
    private static final int NAMES = 30;
    private static final int STYLES = 10;
    private static final int LONGEST = 12;
    private static final int JOURNAL_ENTRIES = 6;
    private static final int HISTORY_STATES = 4;
    private static final int TEXT_SIGNS = 60;
    private static final int GUESSES_COMPARED = 12;

    private static final int NONE = -1;

    private static final int NOTHING = 0;
    private static final int FIRST = 1;
    private static final int FURTHER = 2;

    private static final int LAYOUTS = 3;
    private static final int RISING = 0;
    private static final int SIDE_BY_SIDE = 1;
    private static final int FALLING = 2;

    private static final int NO_FAULT = 0;
    private static final int BAD_FORM = 1;
    private static final int BAD_NUMBER = 2;
    private static final int BAD_STATE = 3;

    /** Scores and their sums may be negative; these keep their answers apart from the errors. */
    private static final int SCORE_SHIFT = 100;
    private static final int SUM_SHIFT = 3000;

    /** From this number on, "what" stands for the pages of a file or guess. */
    private static final int PAGE_ASKED = 10;

    private final Disk disk = new Disk();
    private final Guesses guesses = new Guesses();
    private final History history = new History();
    private final Script script = new Script();
    private final PageRow room = new PageRow();

    public UndeleteDesks() {
    }

    // ---- files

    public int write(int name, int style, int length, int layout) {
        if (!isName(name) || !within(style, 0, STYLES - 1) || !isLength(length) || !isLayout(layout)) {
            return INVALID_ARGUMENT;
        }
        history.draft(disk);
        return settled(writeFile(name, style, length, layout));
    }

    public int delete(int name) {
        if (!isName(name)) {
            return INVALID_ARGUMENT;
        }
        history.draft(disk);
        return settled(deleteFile(name));
    }

    public int wipe(int page) {
        if (!isPage(page)) {
            return INVALID_ARGUMENT;
        }
        history.draft(disk);
        return settled(wipePage(page));
    }

    public int wipeAll() {
        int marked = disk.markedPages(disk.freeSet());
        history.draft(disk);
        for (int page = 0; page < PAGES; page++) {
            if (disk.isFree(page)) {
                disk.blank(page);
            }
        }
        disk.journal.empty();
        return settled(marked);
    }

    public int fileOf(int name, int what) {
        if (!isName(name) || !(within(what, 0, 4) || asksPage(what))) {
            return INVALID_ARGUMENT;
        }
        if (!disk.hasFile(name)) {
            return NOT_FOUND;
        }
        int first = disk.filePage(name, 0);
        int size = disk.lengthOn(first);
        switch (what) {
            case 0:
                return disk.styleOn(first);
            case 1:
                return size;
            case 2:
                return first;
            case 3:
                return disk.filePage(name, size - 1);
            case 4:
                return disk.isStraight(first) ? 1 : 0;
            default:
                return found(disk.filePage(name, what - PAGE_ASKED));
        }
    }

    public int pageOf(int page, int what) {
        if (!isPage(page) || !within(what, 0, 6)) {
            return INVALID_ARGUMENT;
        }
        switch (what) {
            case 0:
                return disk.isFree(page) ? 1 : 0;
            case 1:
                return disk.markOn(page);
            case 2:
                return found(disk.styleOn(page));
            case 3:
                return found(disk.lengthOn(page));
            case 4:
                return found(disk.nextOn(page));
            case 5:
                return found(disk.ownerOf(page));
            default:
                guesses.find(disk, disk.freeSet());
                return guesses.withPage(page);
        }
    }

    public int journalOf(int index, int what) {
        if (index < 0 || !within(what, 0, 2)) {
            return INVALID_ARGUMENT;
        }
        Journal journal = disk.journal;
        switch (what) {
            case 0:
                return found(journal.nameAt(index));
            case 1:
                return found(journal.firstAt(index));
            default:
                return found(journal.styleAt(index));
        }
    }

    // ---- guesses

    public int guessOf(int guess, int what) {
        if (guess < 0 || !(within(what, 0, 7) || asksPage(what))) {
            return INVALID_ARGUMENT;
        }
        guesses.find(disk, disk.freeSet());
        if (guess >= guesses.size) {
            return NOT_FOUND;
        }
        Guess asked = guesses.pick(disk, guess);
        switch (what) {
            case 0:
                return asked.score + SCORE_SHIFT;
            case 1:
                return asked.row.size;
            case 2:
                return asked.missing;
            case 3:
                return asked.style;
            case 4:
                return found(asked.name);
            case 5:
                return asked.chainSteps;
            case 6:
                return asked.neighborSteps;
            case 7:
                return guesses.sharingWith(guess);
            default:
                return found(asked.row.at(what - PAGE_ASKED));
        }
    }

    public int claim(int guess, int name) {
        if (guess < 0 || !(name == NONE || isName(name))) {
            return INVALID_ARGUMENT;
        }
        history.draft(disk);
        return settled(claimGuess(guess, name));
    }

    public int bestGuesses(int what) {
        if (!within(what, 0, 1)) {
            return INVALID_ARGUMENT;
        }
        guesses.find(disk, disk.freeSet());
        guesses.findBest();
        return what == 0 ? guesses.bestSet : guesses.bestSum;
    }

    public int would(int length, int layout, int what) {
        if (!isLength(length) || !isLayout(layout) || !within(what, 0, 3)) {
            return INVALID_ARGUMENT;
        }
        if (disk.freePages() < length) {
            return LIMIT_REACHED;
        }
        room.allot(disk, length, layout);
        if (what == 0) {
            return room.at(0);
        }
        if (what == 1) {
            return disk.markedPages(room.set());
        }
        guesses.find(disk, disk.freeSet() & ~room.set());
        return what == 2 ? guesses.size : guesses.sum() + SUM_SHIFT;
    }

    public int gentlest(int length) {
        if (!isLength(length)) {
            return INVALID_ARGUMENT;
        }
        if (disk.freePages() < length) {
            return LIMIT_REACHED;
        }
        int best = 0;
        int bestSum = 0;
        for (int layout = 0; layout < LAYOUTS; layout++) {
            room.allot(disk, length, layout);
            guesses.find(disk, disk.freeSet() & ~room.set());
            int sum = guesses.sum();
            if (layout == 0 || sum > bestSum) {
                best = layout;
                bestSum = sum;
            }
        }
        return best;
    }

    public int count(int what) {
        switch (what) {
            case 0:
                return disk.freePages();
            case 1:
                return disk.files();
            case 2:
                return disk.markedPages(disk.freeSet());
            case 3:
                guesses.find(disk, disk.freeSet());
                return guesses.size;
            case 4:
                return disk.journal.size;
            case 5:
                guesses.find(disk, disk.freeSet());
                return guesses.sum() + SUM_SHIFT;
            case 6:
                return disk.written;
            case 7:
                return disk.deleted;
            case 8:
                return disk.claimed;
            case 9:
                return disk.freeRuns();
            case 10:
                return disk.longestRun();
            case 11:
                return history.size;
            case 12:
                return script.length;
            default:
                return INVALID_ARGUMENT;
        }
    }

    public int undo() {
        if (history.size == 0) {
            return NOT_POSSIBLE;
        }
        history.takeBack(disk);
        return history.size;
    }

    // ---- texts

    public int type(int character) {
        if (!within(character, 32, 126)) {
            return INVALID_ARGUMENT;
        }
        if (script.length >= TEXT_SIGNS) {
            return LIMIT_REACHED;
        }
        script.append(character);
        return script.length;
    }

    public int clearText() {
        int length = script.length;
        script.length = 0;
        return length;
    }

    public int fault(int what) {
        if (!within(what, 0, 1)) {
            return INVALID_ARGUMENT;
        }
        history.draft(disk);
        int reason = runOrders();
        history.restoreDraft(disk);
        if (reason == NO_FAULT) {
            return NOT_FOUND;
        }
        return what == 0 ? script.start : reason;
    }

    public int play() {
        history.draft(disk);
        if (runOrders() != NO_FAULT) {
            history.restoreDraft(disk);
            return NOT_POSSIBLE;
        }
        return settled(script.ordersRead);
    }

    // ---- what the calls and the orders have in common

    private static boolean within(int value, int low, int high) {
        return value >= low && value <= high;
    }

    private static boolean isName(int name) {
        return within(name, 0, NAMES - 1);
    }

    private static boolean isPage(int page) {
        return within(page, 0, PAGES - 1);
    }

    private static boolean isLength(int length) {
        return within(length, 1, LONGEST);
    }

    private static boolean isLayout(int layout) {
        return within(layout, 0, LAYOUTS - 1);
    }

    private static boolean asksPage(int what) {
        return within(what, PAGE_ASKED, PAGE_ASKED + LONGEST - 1);
    }

    private static int found(int value) {
        return value == NONE ? NOT_FOUND : value;
    }

    /** Every error is negative and every answer of a change is not, so the answer tells which it was. */
    private int settled(int answer) {
        if (answer >= 0) {
            history.keepDraft();
        }
        return answer;
    }

    private int writeFile(int name, int style, int length, int layout) {
        if (disk.hasFile(name)) {
            return NOT_POSSIBLE;
        }
        if (disk.freePages() < length) {
            return LIMIT_REACHED;
        }
        room.allot(disk, length, layout);
        disk.lay(name, style, room);
        disk.written++;
        return room.at(0);
    }

    private int deleteFile(int name) {
        if (!disk.hasFile(name)) {
            return NOT_POSSIBLE;
        }
        disk.release(name);
        disk.deleted++;
        return disk.freePages();
    }

    private int wipePage(int page) {
        if (!disk.isFree(page)) {
            return NOT_POSSIBLE;
        }
        int mark = disk.markOn(page);
        disk.blank(page);
        return mark;
    }

    private int claimGuess(int guess, int name) {
        guesses.find(disk, disk.freeSet());
        if (guess >= guesses.size) {
            return NOT_POSSIBLE;
        }
        Guess claimed = guesses.pick(disk, guess);
        int fileName = name == NONE ? claimed.name : name;
        if (fileName == NONE || disk.hasFile(fileName)) {
            return NOT_POSSIBLE;
        }
        disk.lay(fileName, claimed.style, claimed.row);
        disk.claimed++;
        return claimed.row.size;
    }

    /** Whoever calls this has drafted the disk: the orders ahead of a fault are done when it returns. */
    private int runOrders() {
        script.rewind();
        int reason = NO_FAULT;
        for (int n = 0; n < TEXT_SIGNS && reason == NO_FAULT && script.hasMore(); n++) {
            if (!script.readOrder()) {
                reason = BAD_FORM;
            } else if (!script.numbersFit()) {
                reason = BAD_NUMBER;
            } else if (doOrder() < 0) {
                reason = BAD_STATE;
            }
        }
        return reason;
    }

    private int doOrder() {
        switch (script.order) {
            case 'w':
                return writeFile(script.number, script.style, script.fileLength, RISING);
            case 'd':
                return deleteFile(script.number);
            case 'c':
                return claimGuess(script.number, NONE);
            default:
                return wipePage(script.number);
        }
    }

    /** Pages in a row, as a file or a guess has them. */
    private static final class PageRow {
        private final int[] pages = new int[LONGEST];
        private int size;

        void empty() {
            size = 0;
        }

        void add(int page) {
            if (size >= 0 && size < LONGEST) {
                pages[size] = page;
                size++;
            }
        }

        int at(int index) {
            return index >= 0 && index < size && index < LONGEST ? pages[index] : NONE;
        }

        long set() {
            long set = 0L;
            for (int k = 0; k < size && k < LONGEST; k++) {
                set |= 1L << pages[k];
            }
            return set;
        }

        /** Takes the pages that a file gets by a layout; there are enough free ones. */
        void allot(Disk disk, int length, int layout) {
            empty();
            if (layout == FALLING) {
                takeFalling(disk, length);
                return;
            }
            int run = layout == SIDE_BY_SIDE ? disk.lowestRun(length) : NONE;
            takeRising(disk, run == NONE ? 0 : run, length);
        }

        private void takeRising(Disk disk, int from, int length) {
            for (int page = from; page < PAGES && size < length; page++) {
                if (disk.isFree(page)) {
                    add(page);
                }
            }
        }

        private void takeFalling(Disk disk, int length) {
            for (int page = PAGES - 1; page >= 0 && size < length; page--) {
                if (disk.isFree(page)) {
                    add(page);
                }
            }
        }
    }

    /** The latest deleted files, the latest one at 0. */
    private static final class Journal {
        private final int[] names = new int[JOURNAL_ENTRIES];
        private final int[] firsts = new int[JOURNAL_ENTRIES];
        private final int[] styles = new int[JOURNAL_ENTRIES];
        private int size;

        void empty() {
            size = 0;
        }

        void copyFrom(Journal other) {
            System.arraycopy(other.names, 0, names, 0, JOURNAL_ENTRIES);
            System.arraycopy(other.firsts, 0, firsts, 0, JOURNAL_ENTRIES);
            System.arraycopy(other.styles, 0, styles, 0, JOURNAL_ENTRIES);
            size = other.size;
        }

        void enter(int name, int first, int style) {
            for (int k = JOURNAL_ENTRIES - 1; k > 0; k--) {
                names[k] = names[k - 1];
                firsts[k] = firsts[k - 1];
                styles[k] = styles[k - 1];
            }
            names[0] = name;
            firsts[0] = first;
            styles[0] = style;
            size = Math.min(size + 1, JOURNAL_ENTRIES);
        }

        int nameAt(int index) {
            return index >= 0 && index < size && index < JOURNAL_ENTRIES ? names[index] : NONE;
        }

        int firstAt(int index) {
            return index >= 0 && index < size && index < JOURNAL_ENTRIES ? firsts[index] : NONE;
        }

        int styleAt(int index) {
            return index >= 0 && index < size && index < JOURNAL_ENTRIES ? styles[index] : NONE;
        }

        /** The index of the latest entry with this first page and style, or NONE. */
        int latestWith(int first, int style) {
            for (int k = 0; k < size && k < JOURNAL_ENTRIES; k++) {
                if (firsts[k] == first && styles[k] == style) {
                    return k;
                }
            }
            return NONE;
        }

        /** The index of the latest entry with this style, or NONE. */
        int latestOfStyle(int style) {
            for (int k = 0; k < size && k < JOURNAL_ENTRIES; k++) {
                if (styles[k] == style) {
                    return k;
                }
            }
            return NONE;
        }
    }

    /** All that the history records: the pages, the files, the journal, and what was done so far. */
    private static final class Disk {
        private final int[] marks = new int[PAGES];
        private final int[] styles = new int[PAGES];
        private final int[] lengths = new int[PAGES];
        private final int[] nexts = new int[PAGES];
        private final int[] owners = new int[PAGES];
        /**
         * By name. The rest of a file is told on its pages: they tell style, length and next page,
         * and nothing overwrites them as long as they belong to it.
         */
        private final int[] firstPages = new int[NAMES];
        private final Journal journal = new Journal();
        private int written;
        private int deleted;
        private int claimed;

        Disk() {
            for (int page = 0; page < PAGES; page++) {
                nexts[page] = NONE;
                owners[page] = NONE;
            }
            for (int name = 0; name < NAMES; name++) {
                firstPages[name] = NONE;
            }
        }

        void copyFrom(Disk other) {
            System.arraycopy(other.marks, 0, marks, 0, PAGES);
            System.arraycopy(other.styles, 0, styles, 0, PAGES);
            System.arraycopy(other.lengths, 0, lengths, 0, PAGES);
            System.arraycopy(other.nexts, 0, nexts, 0, PAGES);
            System.arraycopy(other.owners, 0, owners, 0, PAGES);
            System.arraycopy(other.firstPages, 0, firstPages, 0, NAMES);
            journal.copyFrom(other.journal);
            written = other.written;
            deleted = other.deleted;
            claimed = other.claimed;
        }

        boolean isFree(int page) {
            return page >= 0 && page < PAGES && owners[page] == NONE;
        }

        int markOn(int page) {
            return page >= 0 && page < PAGES ? marks[page] : NOTHING;
        }

        int styleOn(int page) {
            return page >= 0 && page < PAGES && marks[page] != NOTHING ? styles[page] : NONE;
        }

        int lengthOn(int page) {
            return page >= 0 && page < PAGES && marks[page] == FIRST ? lengths[page] : NONE;
        }

        int nextOn(int page) {
            return page >= 0 && page < PAGES ? nexts[page] : NONE;
        }

        int ownerOf(int page) {
            return page >= 0 && page < PAGES ? owners[page] : NONE;
        }

        boolean hasFile(int name) {
            return name >= 0 && name < NAMES && firstPages[name] != NONE;
        }

        int files() {
            int files = 0;
            for (int name = 0; name < NAMES; name++) {
                if (firstPages[name] != NONE) {
                    files++;
                }
            }
            return files;
        }

        /** The page of a file, or NONE if it has not so many. */
        int filePage(int name, int index) {
            int page = hasFile(name) ? firstPages[name] : NONE;
            for (int k = 0; k < index && page != NONE; k++) {
                page = nextOn(page);
            }
            return page;
        }

        /** Whether the pages told from here on lie one right behind another. */
        boolean isStraight(int first) {
            int page = first;
            for (int k = 1; k < LONGEST && nextOn(page) != NONE; k++) {
                if (nextOn(page) != page + 1) {
                    return false;
                }
                page++;
            }
            return true;
        }

        long freeSet() {
            long free = 0L;
            for (int page = 0; page < PAGES; page++) {
                if (owners[page] == NONE) {
                    free |= 1L << page;
                }
            }
            return free;
        }

        int freePages() {
            return Long.bitCount(freeSet());
        }

        /** On how many pages of a set there is something. */
        int markedPages(long set) {
            int marked = 0;
            for (int page = 0; page < PAGES; page++) {
                if ((set >> page & 1L) != 0L && marks[page] != NOTHING) {
                    marked++;
                }
            }
            return marked;
        }

        int freeRuns() {
            int runs = 0;
            for (int page = 0; page < PAGES; page++) {
                if (isFree(page) && !isFree(page - 1)) {
                    runs++;
                }
            }
            return runs;
        }

        int longestRun() {
            int longest = 0;
            int run = 0;
            for (int page = 0; page < PAGES; page++) {
                run = isFree(page) ? run + 1 : 0;
                longest = Math.max(longest, run);
            }
            return longest;
        }

        /** Where so many free pages lie one right behind another, or NONE. */
        int lowestRun(int length) {
            int run = 0;
            for (int page = 0; page < PAGES; page++) {
                run = isFree(page) ? run + 1 : 0;
                if (run == length) {
                    return page - length + 1;
                }
            }
            return NONE;
        }

        /** Makes the pages of the row a file, and overwrites what is on them. */
        void lay(int name, int style, PageRow row) {
            if (name < 0 || name >= NAMES) {
                return;
            }
            firstPages[name] = row.at(0);
            for (int k = 0; k < LONGEST && row.at(k) != NONE; k++) {
                putPage(row.at(k), k == 0 ? FIRST : FURTHER, style, row.at(k + 1));
                own(row.at(k), name);
            }
            tellLength(row.at(0), row.size);
        }

        private void putPage(int page, int mark, int style, int next) {
            if (page >= 0 && page < PAGES) {
                marks[page] = mark;
                styles[page] = style;
                nexts[page] = next;
            }
        }

        private void own(int page, int name) {
            if (page >= 0 && page < PAGES) {
                owners[page] = name;
            }
        }

        private void tellLength(int page, int length) {
            if (page >= 0 && page < PAGES) {
                lengths[page] = length;
            }
        }

        void blank(int page) {
            putPage(page, NOTHING, 0, NONE);
        }

        /** Deletes a file: what is on its pages stays. */
        void release(int name) {
            if (name < 0 || name >= NAMES) {
                return;
            }
            int first = firstPages[name];
            journal.enter(name, first, styleOn(first));
            firstPages[name] = NONE;
            for (int page = 0; page < PAGES; page++) {
                if (owners[page] == name) {
                    owners[page] = NONE;
                }
            }
        }
    }

    /** What is found from one first page. */
    private static final class Guess {
        private final PageRow row = new PageRow();
        private long set;
        private int style;
        private int name;
        private int missing;
        private int chainSteps;
        private int neighborSteps;
        private int score;

        void trace(Disk disk, long free, int first) {
            style = disk.styleOn(first);
            int length = disk.lengthOn(first);
            row.empty();
            row.add(first);
            chainSteps = 0;
            neighborSteps = 0;
            long open = free & ~(1L << first);
            int last = first;
            for (int k = 1; k < LONGEST && k < length; k++) {
                int told = disk.nextOn(last);
                if (fits(disk, open, told)) {
                    chainSteps++;
                    last = told;
                } else if (fits(disk, open, last + 1)) {
                    neighborSteps++;
                    last = last + 1;
                } else {
                    break;
                }
                row.add(last);
                open &= ~(1L << last);
            }
            set = free & ~open;
            missing = length - row.size;
        }

        /** Whether a page can come next; open are the free pages that the guess has not yet. */
        private boolean fits(Disk disk, long open, int page) {
            return page >= 0 && page < PAGES && (open >> page & 1L) != 0L
                    && disk.marks[page] == FURTHER && disk.styles[page] == style;
        }

        void rate(Journal journal, int first) {
            int entry = journal.latestWith(first, style);
            score = 10 + 10 * chainSteps + 4 * neighborSteps - 6 * missing + (entry == NONE ? 0 : 15);
            name = journal.nameAt(entry == NONE ? journal.latestOfStyle(style) : entry);
        }
    }

    /** The guesses in order, as they are if the pages of a set are free. */
    private static final class Guesses {
        private final Guess traced = new Guess();
        private final int[] firsts = new int[PAGES];
        private final int[] scores = new int[PAGES];
        private final long[] sets = new long[PAGES];
        private final int[] clashes = new int[GUESSES_COMPARED];
        private long free;
        private int size;
        private int bestSet;
        private int bestSum;

        void find(Disk disk, long freePages) {
            free = freePages;
            size = 0;
            for (int page = 0; page < PAGES; page++) {
                if ((free >> page & 1L) != 0L && disk.marks[page] == FIRST) {
                    traced.trace(disk, free, page);
                    traced.rate(disk.journal, page);
                    insert(page, traced.score, traced.set);
                }
            }
        }

        /** First pages come rising, so of equal scores the one that is there already stays ahead. */
        private void insert(int first, int score, long set) {
            if (size < 0 || size >= PAGES) {
                return;
            }
            int place = size;
            while (place > 0 && scores[place - 1] < score) {
                firsts[place] = firsts[place - 1];
                scores[place] = scores[place - 1];
                sets[place] = sets[place - 1];
                place--;
            }
            firsts[place] = first;
            scores[place] = score;
            sets[place] = set;
            size++;
        }

        private boolean hasGuess(int guess) {
            return guess >= 0 && guess < size && guess < PAGES;
        }

        /**
         * Traces a guess again, as only its score and its pages were kept when the guesses were found on this
         * disk. The answer is good until guesses are picked or found again.
         */
        Guess pick(Disk disk, int guess) {
            if (hasGuess(guess)) {
                traced.trace(disk, free, firsts[guess]);
                traced.rate(disk.journal, firsts[guess]);
            }
            return traced;
        }

        int sum() {
            int sum = 0;
            for (int k = 0; k < size && k < PAGES; k++) {
                sum += scores[k];
            }
            return sum;
        }

        int withPage(int page) {
            return meeting(1L << page);
        }

        int sharingWith(int guess) {
            return hasGuess(guess) ? meeting(sets[guess]) - 1 : 0;
        }

        /** How many guesses have a page of the set. */
        private int meeting(long set) {
            int guesses = 0;
            for (int k = 0; k < size && k < PAGES; k++) {
                if ((sets[k] & set) != 0L) {
                    guesses++;
                }
            }
            return guesses;
        }

        void findBest() {
            int compared = Math.min(size, GUESSES_COMPARED);
            for (int k = 0; k < compared; k++) {
                clashes[k] = clashesOf(k, compared);
            }
            bestSet = 0;
            bestSum = 0;
            decide(this, compared - 1, 0, 0);
        }

        private int clashesOf(int guess, int compared) {
            int clashing = 0;
            for (int k = 0; k < compared && k < PAGES; k++) {
                if (k != guess && (sets[k] & sets[guess]) != 0L) {
                    clashing |= 1 << k;
                }
            }
            return clashing;
        }

        /**
         * The greatest number is decided first, and left out before it is taken: so the sets come rising as
         * numbers, and the first one with the greatest sum is the lowest. What adds nothing is never taken,
         * and what adds something and clashes with none is never left out.
         */
        private static void decide(Guesses all, int guess, int taken, int sum) {
            if (guess < 0 || guess >= GUESSES_COMPARED) {
                if (sum > all.bestSum) {
                    all.bestSum = sum;
                    all.bestSet = taken;
                }
                return;
            }
            int score = all.scores[guess];
            if (score <= 0 || all.clashes[guess] != 0) {
                decide(all, guess - 1, taken, sum);
            }
            if (score > 0 && (all.clashes[guess] & taken) == 0) {
                decide(all, guess - 1, taken | 1 << guess, sum + score);
            }
        }
    }

    /** The states to which undo goes back, the oldest one at 0, and behind them a draft of the next one. */
    private static final class History {
        private final Disk[] states = new Disk[HISTORY_STATES + 1];
        private int size;

        History() {
            for (int k = 0; k <= HISTORY_STATES; k++) {
                states[k] = new Disk();
            }
        }

        private Disk stateAt(int index) {
            return index >= 0 && index <= HISTORY_STATES ? states[index] : null;
        }

        void draft(Disk disk) {
            Disk draft = stateAt(size);
            if (draft != null) {
                draft.copyFrom(disk);
            }
        }

        void restoreDraft(Disk disk) {
            Disk draft = stateAt(size);
            if (draft != null) {
                disk.copyFrom(draft);
            }
        }

        void keepDraft() {
            if (size < HISTORY_STATES) {
                size++;
                return;
            }
            Disk oldest = states[0];
            for (int k = 0; k < HISTORY_STATES; k++) {
                states[k] = states[k + 1];
            }
            states[HISTORY_STATES] = oldest;
        }

        /** The latest state is where the draft of the next change would be, once it is removed. */
        void takeBack(Disk disk) {
            if (size > 0) {
                size--;
                restoreDraft(disk);
            }
        }
    }

    /** The text, and the order in it that was read last. */
    private static final class Script {
        private final int[] signs = new int[TEXT_SIGNS];
        private int length;
        private int at;
        private int start;
        private int ordersRead;
        private int order;
        private int number;
        private int style;
        private int fileLength;

        void append(int sign) {
            if (length >= 0 && length < TEXT_SIGNS) {
                signs[length] = sign;
                length++;
            }
        }

        void rewind() {
            at = 0;
            start = 0;
            ordersRead = 0;
        }

        boolean hasMore() {
            return at < length;
        }

        /** Whether the next order has the form; the place behind it comes next. */
        boolean readOrder() {
            start = at;
            order = signHere();
            at++;
            if (order != 'w' && order != 'd' && order != 'c' && order != 'z') {
                return false;
            }
            number = readNumber();
            if (number == NONE || order == 'w' && !readStyleAndLength() || !passes(';')) {
                return false;
            }
            ordersRead++;
            return true;
        }

        private boolean readStyleAndLength() {
            if (!passes(',')) {
                return false;
            }
            style = readNumber();
            if (style == NONE || !passes(',')) {
                return false;
            }
            fileLength = readNumber();
            return fileLength != NONE;
        }

        /** Whether the numbers of the order are in their ranges; that of a guess has none. */
        boolean numbersFit() {
            switch (order) {
                case 'w':
                    return number < NAMES && style < STYLES && fileLength >= 1 && fileLength <= LONGEST;
                case 'd':
                    return number < NAMES;
                case 'z':
                    return number < PAGES;
                default:
                    return true;
            }
        }

        private int signHere() {
            return at >= 0 && at < length && at < TEXT_SIGNS ? signs[at] : NONE;
        }

        private boolean passes(int sign) {
            if (signHere() != sign) {
                return false;
            }
            at++;
            return true;
        }

        /** A number of one digit or two, or NONE. */
        private int readNumber() {
            int tens = readDigit();
            int ones = tens == NONE ? NONE : readDigit();
            return ones == NONE ? tens : 10 * tens + ones;
        }

        private int readDigit() {
            int sign = signHere();
            if (sign < '0' || sign > '9') {
                return NONE;
            }
            at++;
            return sign - '0';
        }
    }
}
