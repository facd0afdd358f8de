/** Each promise of the document by itself: ordinary calls, its edges, and wrong arguments. */
public final class PromisesTest {
    private static final int INVALID = -1000001;
    private static final int IMPOSSIBLE = -1000002;
    private static final int LIMIT = -1000003;
    private static final int MISSING = -1000004;
    private static final int LOW = Integer.MIN_VALUE;
    private static final int HIGH = Integer.MAX_VALUE;

    private static int wrong = 0;
    private static UndeleteDesks desk = new UndeleteDesks();

    public static void main(String[] args) {
        newObject();
        write();
        writeErrors();
        delete();
        wipe();
        wipeAll();
        fileOf();
        pageOf();
        journalOf();
        guessOf();
        guessSteps();
        guessesThatShare();
        guessOfErrors();
        guessNames();
        guessNameByStyle();
        claim();
        claimErrors();
        bestGuesses();
        bestGuessesThatAddNothing();
        bestOfTwelve();
        would();
        gentlest();
        count();
        undo();
        type();
        clearText();
        faultForms();
        faultRanges();
        faultStates();
        play();
        errorsChangeNothing();
        System.out.println(wrong == 0 ? "all promises are kept" : wrong + " answers are wrong");
        if (wrong != 0) {
            System.exit(1);
        }
    }

    private static void due(String call, int got, int want) {
        if (got != want) {
            wrong++;
            System.out.println(call + " answered " + got + ", due is " + want);
        }
    }

    private static void fresh() {
        desk = new UndeleteDesks();
    }

    private static void text(String signs) {
        desk.clearText();
        for (int k = 0; k < signs.length(); k++) {
            due("type " + signs.charAt(k), desk.type(signs.charAt(k)), k + 1);
        }
    }

    private static void played(String signs, int orders) {
        text(signs);
        due("play " + signs, desk.play(), orders);
    }

    private static void newObject() {
        fresh();
        for (int page = 0; page < 40; page++) {
            due("new: pageOf " + page + " 0", desk.pageOf(page, 0), 1);
            due("new: pageOf " + page + " 1", desk.pageOf(page, 1), 0);
            due("new: pageOf " + page + " 4", desk.pageOf(page, 4), MISSING);
        }
        int[] counts = {40, 0, 0, 0, 0, 3000, 0, 0, 0, 1, 40, 0, 0};
        for (int what = 0; what < counts.length; what++) {
            due("new: count " + what, desk.count(what), counts[what]);
        }
        for (int name = 0; name < 30; name++) {
            due("new: fileOf " + name, desk.fileOf(name, 0), MISSING);
        }
        due("new: journalOf", desk.journalOf(0, 0), MISSING);
        due("new: guessOf", desk.guessOf(0, 0), MISSING);
        due("new: undo", desk.undo(), IMPOSSIBLE);
        due("new: fault", desk.fault(0), MISSING);
        desk.write(0, 1, 1, 0);
        due("another object", new UndeleteDesks().count(1), 0);
    }

    private static void pages(String of, int name, int... pages) {
        due(of + ": size", desk.fileOf(name, 1), pages.length);
        for (int k = 0; k < pages.length; k++) {
            due(of + ": page " + k, desk.fileOf(name, 10 + k), pages[k]);
        }
        if (pages.length < 12) {
            due(of + ": page beyond", desk.fileOf(name, 10 + pages.length), MISSING);
        }
    }

    private static void write() {
        fresh();
        due("write rising", desk.write(0, 0, 3, 0), 0);
        due("write falling", desk.write(29, 9, 2, 2), 39);
        due("write side by side", desk.write(1, 1, 2, 1), 3);
        pages("rising", 0, 0, 1, 2);
        pages("falling", 29, 39, 38);
        pages("side by side", 1, 3, 4);
        desk.write(2, 1, 1, 0);
        desk.delete(1);
        due("write past a short run", desk.write(3, 1, 3, 1), 6);
        pages("past a short run", 3, 6, 7, 8);
        due("write into a run that just fits", desk.write(4, 1, 2, 1), 3);
        pages("into a run that just fits", 4, 3, 4);
        desk.delete(4);
        due("write rising over a gap", desk.write(5, 1, 4, 0), 3);
        pages("rising over a gap", 5, 3, 4, 9, 10);
        desk.delete(2);
        desk.delete(29);
        due("write falling into all", desk.write(6, 1, 12, 2), 39);
        pages("falling into all", 6, 39, 38, 37, 36, 35, 34, 33, 32, 31, 30, 29, 28);
        due("what is on the second page", desk.pageOf(38, 1), 2);
        due("its next page", desk.pageOf(38, 4), 37);
        due("next of the last page", desk.pageOf(28, 4), MISSING);

        fresh();
        desk.write(0, 1, 12, 2);
        desk.write(1, 1, 12, 2);
        desk.write(2, 1, 12, 2);
        due("write falling to page 0", desk.write(3, 1, 4, 2), 3);
        pages("falling to page 0", 3, 3, 2, 1, 0);
        desk.delete(3);
        due("a guess falling to page 0", desk.guessOf(0, 13), 0);
        due("wholly by the chain", desk.guessOf(0, 5), 3);

        fresh();
        for (int name = 0; name < 20; name++) {
            desk.write(name, 1, 2, 0);
        }
        for (int name = 1; name < 20; name += 2) {
            desk.delete(name);
        }
        due("side by side where no run is", desk.write(25, 2, 5, 1), 2);
        pages("as rising", 25, 2, 3, 6, 7, 10);
        due("side by side at the end of the disk", desk.write(26, 2, 2, 2), 39);
        desk.delete(26);
        due("12 over gaps, falling", desk.write(27, 3, 12, 2), 39);
        due("its last page", desk.fileOf(27, 3), 18);
        due("more than the 3 that are free", desk.write(28, 3, 4, 1), LIMIT);
        due("2 of the 3", desk.write(28, 3, 2, 0), 11);
        due("the last free page", desk.write(29, 3, 1, 1), 15);
        due("no page is free", desk.write(26, 3, 1, 0), LIMIT);
    }

    private static void writeErrors() {
        fresh();
        int[] far = {LOW, -1, HIGH};
        for (int bad : far) {
            due("write name " + bad, desk.write(bad, 0, 1, 0), INVALID);
            due("write style " + bad, desk.write(0, bad, 1, 0), INVALID);
            due("write length " + bad, desk.write(0, 0, bad, 0), INVALID);
            due("write layout " + bad, desk.write(0, 0, 1, bad), INVALID);
        }
        due("write name 30", desk.write(30, 0, 1, 0), INVALID);
        due("write style 10", desk.write(0, 10, 1, 0), INVALID);
        due("write length 0", desk.write(0, 0, 0, 0), INVALID);
        due("write length 13", desk.write(0, 0, 13, 0), INVALID);
        due("write layout 3", desk.write(0, 0, 1, 3), INVALID);
        for (int name = 0; name < 3; name++) {
            desk.write(name, 0, 12, 0);
        }
        due("write, the name is there", desk.write(2, 0, 1, 0), IMPOSSIBLE);
        due("write, the name is there and few are free", desk.write(2, 0, 12, 0), IMPOSSIBLE);
        due("write, an argument ahead of the name", desk.write(2, 0, 12, 3), INVALID);
        due("write, few are free", desk.write(3, 0, 5, 0), LIMIT);
        due("write, just enough are free", desk.write(3, 0, 4, 0), 36);
        due("errors are no changes", desk.count(11), 4);
        due("nor files", desk.count(6), 4);
    }

    private static void delete() {
        fresh();
        desk.write(0, 3, 4, 0);
        desk.write(1, 5, 2, 2);
        due("delete", desk.delete(0), 38);
        due("delete again", desk.delete(0), IMPOSSIBLE);
        due("its page is free", desk.pageOf(0, 0), 1);
        due("what was on it stays", desk.pageOf(0, 1), 1);
        due("and the length", desk.pageOf(0, 3), 4);
        due("and the next page", desk.pageOf(2, 4), 3);
        due("delete the other", desk.delete(1), 40);
        due("journal name", desk.journalOf(0, 0), 1);
        due("journal first page", desk.journalOf(0, 1), 39);
        due("journal style", desk.journalOf(0, 2), 5);
        due("delete -1", desk.delete(-1), INVALID);
        due("delete 30", desk.delete(30), INVALID);
        due("delete least", desk.delete(LOW), INVALID);
        due("delete most", desk.delete(HIGH), INVALID);
        due("deleted so far", desk.count(7), 2);
    }

    private static void wipe() {
        fresh();
        desk.write(0, 3, 3, 0);
        due("wipe a page of a file", desk.wipe(1), IMPOSSIBLE);
        desk.delete(0);
        due("wipe a first page", desk.wipe(0), 1);
        due("wipe a further page", desk.wipe(2), 2);
        due("wipe it again", desk.wipe(2), 0);
        due("wipe an empty page", desk.wipe(39), 0);
        due("each is a change", desk.count(11), 4);
        due("nothing on it", desk.pageOf(0, 1), 0);
        due("no style", desk.pageOf(0, 2), MISSING);
        due("no length", desk.pageOf(0, 3), MISSING);
        due("no next page", desk.pageOf(0, 4), MISSING);
        due("the page between stays", desk.pageOf(1, 4), 2);
        due("the journal stays", desk.count(4), 1);
        due("wipe -1", desk.wipe(-1), INVALID);
        due("wipe 40", desk.wipe(40), INVALID);
        due("wipe least", desk.wipe(LOW), INVALID);
        due("wipe most", desk.wipe(HIGH), INVALID);
        fresh();
        desk.write(0, 3, 3, 0);
        desk.wipe(39);
        due("undo wiping", desk.undo(), 1);
        due("the file is there", desk.count(1), 1);
    }

    private static void wipeAll() {
        fresh();
        desk.write(0, 3, 3, 0);
        desk.write(1, 4, 5, 0);
        desk.delete(0);
        due("wipeAll", desk.wipeAll(), 3);
        due("the journal is empty", desk.count(4), 0);
        for (int what = 0; what <= 2; what++) {
            due("no entry " + what, desk.journalOf(0, what), MISSING);
        }
        due("nothing on free pages", desk.count(2), 0);
        due("pages of files stay", desk.pageOf(3, 3), 5);
        due("wipeAll again", desk.wipeAll(), 0);
        due("each is a change", desk.count(11), 4);
        desk.undo();
        due("undo the second", desk.count(4), 0);
        desk.undo();
        due("undo the first", desk.count(4), 1);
        due("the pages are back", desk.guessOf(0, 0), 145);
    }

    private static void fileOf() {
        fresh();
        desk.write(0, 3, 1, 0);
        desk.write(29, 9, 12, 2);
        due("style", desk.fileOf(29, 0), 9);
        due("pages", desk.fileOf(29, 1), 12);
        due("first page", desk.fileOf(29, 2), 39);
        due("last page", desk.fileOf(29, 3), 28);
        due("falling is not rising", desk.fileOf(29, 4), 0);
        due("its last page by number", desk.fileOf(29, 21), 28);
        due("one page is in order", desk.fileOf(0, 4), 1);
        due("one page is the last", desk.fileOf(0, 3), 0);
        due("page 1 of one", desk.fileOf(0, 11), MISSING);
        due("page 11 of one", desk.fileOf(0, 21), MISSING);
        desk.write(1, 2, 2, 0);
        desk.write(2, 2, 1, 0);
        due("two in order", desk.fileOf(1, 4), 1);
        desk.delete(0);
        desk.delete(1);
        desk.write(3, 1, 3, 0);
        desk.write(4, 1, 3, 0);
        due("three in order", desk.fileOf(3, 4), 1);
        desk.delete(3);
        desk.write(5, 1, 4, 0);
        due("a gap before the last", desk.fileOf(5, 4), 0);
        fileOfTwelve();
        int[] bad = {LOW, -1, 5, 9, 22, HIGH};
        for (int what : bad) {
            due("fileOf what " + what, desk.fileOf(4, what), INVALID);
            due("fileOf nothing, what " + what, desk.fileOf(20, what), INVALID);
        }
        due("fileOf -1", desk.fileOf(-1, 0), INVALID);
        due("fileOf 30", desk.fileOf(30, 0), INVALID);
        due("no such file", desk.fileOf(20, 0), MISSING);
        due("no page of no such file", desk.fileOf(20, 10), MISSING);
    }

    private static void fileOfTwelve() {
        fresh();
        desk.write(0, 1, 11, 0);
        desk.write(1, 1, 1, 0);
        desk.delete(0);
        desk.write(2, 1, 12, 0);
        pages("over a gap", 2, 0, 1, 2, 3, 4, 5, 6, 7, 8, 9, 10, 12);
        due("the last of twelve is not right behind", desk.fileOf(2, 4), 0);
        desk.write(4, 1, 12, 0);
        due("twelve in order", desk.fileOf(4, 4), 1);
    }

    private static void pageOf() {
        fresh();
        desk.write(7, 0, 3, 0);
        int[] first = {0, 1, 0, 3, 1, 7, 0};
        int[] further = {0, 2, 0, MISSING, 2, 7, 0};
        int[] last = {0, 2, 0, MISSING, MISSING, 7, 0};
        int[] empty = {1, 0, MISSING, MISSING, MISSING, MISSING, 0};
        int[] lost = {1, 1, 0, 3, 1, MISSING, 1};
        for (int what = 0; what <= 6; what++) {
            due("first page " + what, desk.pageOf(0, what), first[what]);
            due("further page " + what, desk.pageOf(1, what), further[what]);
            due("last page " + what, desk.pageOf(2, what), last[what]);
            due("empty page " + what, desk.pageOf(39, what), empty[what]);
        }
        desk.delete(7);
        for (int what = 0; what <= 6; what++) {
            due("page of a lost file " + what, desk.pageOf(0, what), lost[what]);
        }
        due("the end of a guess", desk.pageOf(2, 6), 1);
        due("beyond it", desk.pageOf(3, 6), 0);
        int[] bad = {LOW, -1, 7, HIGH};
        for (int what : bad) {
            due("pageOf what " + what, desk.pageOf(0, what), INVALID);
        }
        int[] none = {LOW, -1, 40, HIGH};
        for (int page : none) {
            due("pageOf " + page, desk.pageOf(page, 0), INVALID);
        }
        desk.write(8, 1, 1, 0);
        due("a new style on it", desk.pageOf(0, 2), 1);
        due("and no next page", desk.pageOf(0, 4), MISSING);
    }

    private static void journalOf() {
        fresh();
        for (int name = 0; name < 7; name++) {
            desk.write(name, name, 2, 0);
        }
        for (int name = 0; name < 6; name++) {
            desk.delete(name);
        }
        due("the oldest of 6", desk.journalOf(5, 0), 0);
        for (int what = 0; what <= 2; what++) {
            due("beyond 6: " + what, desk.journalOf(6, what), MISSING);
        }
        desk.delete(6);
        for (int k = 0; k < 6; k++) {
            due("name " + k, desk.journalOf(k, 0), 6 - k);
            due("first page " + k, desk.journalOf(k, 1), 12 - 2 * k);
            due("style " + k, desk.journalOf(k, 2), 6 - k);
        }
        due("the journal has 6", desk.count(4), 6);
        due("journalOf 6", desk.journalOf(6, 0), MISSING);
        due("journalOf most", desk.journalOf(HIGH, 0), MISSING);
        due("journalOf -1", desk.journalOf(-1, 0), INVALID);
        due("journalOf least", desk.journalOf(LOW, 0), INVALID);
        due("journalOf what -1", desk.journalOf(0, -1), INVALID);
        due("journalOf what 3", desk.journalOf(0, 3), INVALID);
        due("journalOf what 3 of nothing", desk.journalOf(6, 3), INVALID);
    }

    private static void guess(int number, int... answers) {
        for (int what = 0; what < 8; what++) {
            due("guess " + number + ": " + what, desk.guessOf(number, what), answers[what]);
        }
        for (int k = 8; k < answers.length; k++) {
            due("guess " + number + ": page " + (k - 8), desk.guessOf(number, k + 2), answers[k]);
        }
        if (answers.length < 20) {
            due("guess " + number + ": no more pages", desk.guessOf(number, answers.length + 2), MISSING);
        }
    }

    private static void guessOf() {
        fresh();
        desk.write(0, 3, 4, 0);
        desk.write(1, 3, 5, 2);
        desk.write(2, 4, 2, 0);
        desk.delete(0);
        guess(0, 155, 4, 0, 3, 0, 3, 0, 0, 0, 1, 2, 3);
        desk.delete(1);
        guess(0, 165, 5, 0, 3, 1, 4, 0, 0, 39, 38, 37, 36, 35);
        guess(1, 155, 4, 0, 3, 0, 3, 0, 0, 0, 1, 2, 3);
        desk.delete(2);
        guess(2, 135, 2, 0, 4, 2, 1, 0, 0, 4, 5);

        // a told page that is gone, and no neighbor: the rest is missing
        fresh();
        desk.write(0, 3, 6, 0);
        desk.delete(0);
        desk.wipe(2);
        guess(0, 111, 2, 4, 3, 0, 1, 0, 0, 0, 1);
        desk.wipe(1);
        guess(0, 95, 1, 5, 3, 0, 0, 0, 0, 0);

        // told pages of another style, of a file, or first pages are none
        fresh();
        desk.write(0, 3, 3, 0);
        desk.delete(0);
        desk.write(1, 3, 1, 0);
        desk.write(2, 5, 2, 0);
        desk.delete(1);
        desk.delete(2);
        guess(0, 135, 2, 0, 5, 2, 1, 0, 0, 1, 2);
        guess(1, 125, 1, 0, 3, 1, 0, 0, 0, 0);

        // with one page more than there are behind it at the end of the disk
        fresh();
        desk.write(0, 1, 12, 0);
        desk.write(1, 1, 12, 0);
        desk.write(2, 1, 12, 0);
        desk.write(3, 1, 3, 0);
        desk.write(4, 2, 1, 0);
        desk.delete(2);
        desk.delete(3);
        desk.delete(4);
        guess(0, 235, 12, 0, 1, 2, 11, 0, 0, 24, 25, 26, 27, 28, 29, 30, 31, 32, 33, 34, 35);
        guess(1, 145, 3, 0, 1, 3, 2, 0, 0, 36, 37, 38);
        guess(2, 125, 1, 0, 2, 4, 0, 0, 0, 39);
    }

    /** Pages 0 and 36 to 39 are free, with a lost file of style 6 on 0, 36, 37, 38. */
    private static void lostAroundFiles() {
        fresh();
        desk.write(10, 8, 1, 0);
        desk.write(11, 8, 12, 0);
        desk.write(12, 8, 12, 0);
        desk.write(13, 8, 11, 0);
        desk.delete(10);
        desk.write(0, 6, 4, 0);
        pages("over a gap", 0, 0, 36, 37, 38);
        desk.delete(0);
    }

    private static void guessSteps() {
        lostAroundFiles();
        guess(0, 155, 4, 0, 6, 0, 3, 0, 0, 0, 36, 37, 38);
        desk.write(1, 5, 3, 2);
        desk.delete(1);
        due("the told page has another style", desk.guessOf(1, 0), 123);
        guess(1, 123, 2, 2, 6, 0, 1, 0, 0, 0, 36);

        lostAroundFiles();
        desk.write(1, 6, 1, 2);
        desk.write(2, 6, 1, 2);
        desk.write(3, 6, 1, 2);
        desk.delete(3);
        guess(0, 125, 1, 0, 6, 3, 0, 0, 0, 37);
        guess(1, 123, 2, 2, 6, 0, 1, 0, 0, 0, 36);

        // 37 tells 36, which the guess has already, so its neighbor 38 comes
        lostAroundFiles();
        desk.write(1, 6, 4, 2);
        desk.delete(1);
        guess(0, 155, 4, 0, 6, 1, 3, 0, 1, 39, 38, 37, 36);
        guess(1, 143, 4, 0, 6, 0, 1, 2, 1, 0, 36, 37, 38);

        // 37 tells 36, which is empty, and the guess has its neighbor 38 already
        fresh();
        desk.write(0, 6, 5, 2);
        desk.delete(0);
        desk.wipe(36);
        guess(0, 133, 3, 2, 6, 0, 2, 0, 0, 39, 38, 37);

        // no page is behind 39
        desk.wipe(38);
        guess(0, 101, 1, 4, 6, 0, 0, 0, 0, 39);
    }

    /**
     * Lost files of style 6 on 0, 2, 4; on 1, 6 with so many pages; and on 3, and one behind these. The pages
     * behind 5 are wiped then, so 1 and 3 go on at their neighbors.
     */
    private static void crossing(int lengthAtOne) {
        fresh();
        for (int name = 10; name < 16; name++) {
            desk.write(name, 8, 1, 0);
        }
        desk.delete(10);
        desk.delete(12);
        desk.delete(14);
        desk.write(0, 6, 3, 0);
        pages("over gaps", 0, 0, 2, 4);
        desk.delete(11);
        desk.write(1, 6, lengthAtOne, 0);
        desk.delete(13);
        desk.write(2, 6, 2, 0);
        due("the first page between", desk.fileOf(2, 2), 3);
        desk.delete(0);
        desk.delete(1);
        desk.delete(2);
        for (int page = 6; page < 10; page++) {
            desk.wipe(page);
        }
    }

    private static void guessesThatShare() {
        crossing(2);
        guess(0, 145, 3, 0, 6, 0, 2, 0, 2, 0, 2, 4);
        guess(1, 129, 2, 0, 6, 1, 0, 1, 1, 1, 2);
        guess(2, 129, 2, 0, 6, 2, 0, 1, 1, 3, 4);
        due("two have page 2", desk.pageOf(2, 6), 2);
        due("one has page 3", desk.pageOf(3, 6), 1);
        due("the lesser two are the best", desk.bestGuesses(0), 6);
        due("their sum", desk.bestGuesses(1), 58);
        due("none has page 5, of a file", desk.pageOf(5, 6), 0);
        desk.wipe(4);
        guess(0, 129, 2, 1, 6, 0, 1, 0, 1, 0, 2);
        guess(2, 119, 1, 1, 6, 2, 0, 0, 0, 3);
        due("of equal sets the lowest", desk.bestGuesses(0), 5);
        due("their sum", desk.bestGuesses(1), 48);

        // by the neighbor, and then by the chain again
        crossing(3);
        guess(1, 139, 3, 0, 6, 1, 1, 1, 2, 1, 2, 4);
        due("all three have page 4", desk.pageOf(4, 6), 3);
        due("one alone is the best now: 45, 39 or 29", desk.bestGuesses(1), 45);
        due("its set", desk.bestGuesses(0), 1);

        // a claim takes the shared page away
        due("claim 0, 2, 4", desk.claim(0, -1), 3);
        guess(0, 119, 1, 1, 6, 2, 0, 0, 0, 3);
        guess(1, 113, 1, 2, 6, 1, 0, 0, 0, 1);
        desk.undo();
        due("claim 1, 2, 4", desk.claim(1, 20), 3);
        pages("claimed", 20, 1, 2, 4);
        guess(1, 113, 1, 2, 6, 0, 0, 0, 0, 0);
    }

    private static void guessOfErrors() {
        fresh();
        desk.write(0, 1, 2, 0);
        desk.delete(0);
        int[] bad = {LOW, -1, 8, 9, 22, HIGH};
        for (int what : bad) {
            due("guessOf what " + what, desk.guessOf(0, what), INVALID);
            due("guessOf nothing, what " + what, desk.guessOf(5, what), INVALID);
        }
        due("guessOf -1", desk.guessOf(-1, 0), INVALID);
        due("guessOf least", desk.guessOf(LOW, 0), INVALID);
        due("guessOf 1", desk.guessOf(1, 0), MISSING);
        due("guessOf most", desk.guessOf(HIGH, 10), MISSING);
        due("guessOf page 11", desk.guessOf(0, 21), MISSING);
    }

    private static void guessNames() {
        fresh();
        desk.write(0, 1, 1, 0);
        desk.write(1, 1, 1, 0);
        desk.write(2, 2, 1, 0);
        desk.delete(0);
        desk.delete(1);
        desk.delete(2);
        due("its own entry", desk.guessOf(0, 4), 0);
        due("its own entry, later", desk.guessOf(1, 4), 1);
        desk.write(5, 1, 1, 0);
        desk.delete(5);
        due("the latest with its page and style", desk.guessOf(0, 4), 5);
        due("still its own, not the latest of its style", desk.guessOf(1, 4), 1);
        for (int name = 10; name < 14; name++) {
            desk.write(name, 3, 1, 2);
            desk.delete(name);
        }
        // now the journal has 13, 12, 11, 10, 5, 2
        due("the score of an entry is gone", desk.guessOf(3, 0), 110);
        due("its place is the last", desk.guessOf(3, 10), 1);
        due("the latest of its style", desk.guessOf(3, 4), 5);
        desk.write(14, 3, 1, 2);
        desk.delete(14);
        desk.write(15, 3, 1, 2);
        desk.delete(15);
        due("no name", desk.guessOf(2, 4), MISSING);
        due("no claim under its name", desk.claim(2, -1), IMPOSSIBLE);
        due("a claim under another", desk.claim(2, 0), 1);
    }

    private static void guessNameByStyle() {
        fresh();
        desk.write(0, 1, 3, 0);
        desk.delete(0);
        desk.write(1, 2, 1, 2);
        for (int k = 0; k < 6; k++) {
            desk.delete(1);
            desk.write(1, 2, 1, 2);
        }
        due("its entry is gone", desk.guessOf(0, 4), MISSING);
        desk.write(2, 1, 1, 2);
        desk.delete(2);
        due("the guess of the first file", desk.guessOf(0, 10), 0);
        due("the latest entry has its style", desk.guessOf(0, 4), 2);
        due("which does not score", desk.guessOf(0, 0), 130);
    }

    private static void claim() {
        fresh();
        desk.write(0, 3, 5, 0);
        desk.write(1, 4, 2, 0);
        desk.delete(0);
        desk.wipe(3);
        guess(0, 133, 3, 2, 3, 0, 2, 0, 0, 0, 1, 2);
        due("claim under its name", desk.claim(0, -1), 3);
        pages("claimed", 0, 0, 1, 2);
        due("its style", desk.fileOf(0, 0), 3);
        due("its length is told", desk.pageOf(0, 3), 3);
        due("the last page tells none", desk.pageOf(2, 4), MISSING);
        due("no guess is left", desk.count(3), 0);
        due("the journal stays", desk.count(4), 1);
        due("one claim so far", desk.count(8), 1);
        due("that is no writing", desk.count(6), 2);
        due("history", desk.count(11), 4);
        desk.delete(0);
        due("deleted again", desk.guessOf(0, 0), 145);
        due("claim under another name", desk.claim(0, 29), 3);
        due("the file of that name", desk.fileOf(29, 1), 3);
        due("claim of a page", desk.pageOf(1, 5), 29);
        due("not of its own name", desk.fileOf(0, 1), MISSING);
    }

    private static void claimErrors() {
        fresh();
        desk.write(0, 3, 2, 0);
        desk.delete(0);
        desk.write(1, 3, 1, 2);
        due("claim -1", desk.claim(-1, 0), INVALID);
        due("claim least", desk.claim(LOW, 0), INVALID);
        due("claim name 30", desk.claim(0, 30), INVALID);
        due("claim name -2", desk.claim(0, -2), INVALID);
        due("claim nothing, name 30", desk.claim(9, 30), INVALID);
        due("claim 1", desk.claim(1, 0), IMPOSSIBLE);
        due("claim most", desk.claim(HIGH, -1), IMPOSSIBLE);
        due("claim, the name is there", desk.claim(0, 1), IMPOSSIBLE);
        desk.write(0, 4, 1, 2);
        due("claim, its own name is there", desk.claim(0, -1), IMPOSSIBLE);
        due("errors are no changes", desk.count(11), 4);
        due("nor claims", desk.count(8), 0);
    }

    private static void bestGuesses() {
        fresh();
        due("none", desk.bestGuesses(0), 0);
        due("no sum", desk.bestGuesses(1), 0);
        desk.write(0, 3, 2, 0);
        desk.write(1, 4, 3, 0);
        desk.write(2, 5, 1, 0);
        desk.delete(0);
        desk.delete(1);
        desk.delete(2);
        due("all three", desk.bestGuesses(0), 7);
        due("their sum", desk.bestGuesses(1), 45 + 35 + 25);
        int[] bad = {LOW, -1, 2, HIGH};
        for (int what : bad) {
            due("bestGuesses " + what, desk.bestGuesses(what), INVALID);
        }
    }

    private static void bestGuessesThatAddNothing() {
        // 12 pages of one file, of which the first is left: its score is 10 - 66 + 15
        fresh();
        desk.write(0, 3, 12, 0);
        desk.delete(0);
        desk.write(1, 4, 1, 2);
        desk.delete(1);
        desk.wipe(1);
        due("a guess below zero", desk.guessOf(1, 0), 59);
        due("is not in the best", desk.bestGuesses(0), 1);
        due("nor in the sum", desk.bestGuesses(1), 25);
        due("but in the sum of all", desk.count(5), 2984);

        // 10 - 24 + 15
        fresh();
        desk.write(0, 3, 5, 0);
        desk.delete(0);
        desk.wipe(1);
        due("a score of 1", desk.bestGuesses(1), 1);
        due("is taken", desk.bestGuesses(0), 1);

        // with a score of 0 the set is lower without it: 10 + 10 + 10 - 30, its entry pushed out of the journal
        fresh();
        desk.write(0, 3, 8, 0);
        desk.delete(0);
        desk.wipe(3);
        for (int name = 1; name < 7; name++) {
            desk.write(name, 4, 1, 2);
            desk.delete(name);
        }
        due("a score of 0", desk.guessOf(1, 0), 100);
        due("is left out", desk.bestGuesses(0), 1);
        desk.wipe(39);
        due("then none", desk.bestGuesses(0), 0);
        due("and 0", desk.bestGuesses(1), 0);
    }

    private static void bestOfTwelve() {
        fresh();
        for (int name = 0; name < 14; name++) {
            desk.write(name, 1, 1, 0);
        }
        for (int name = 0; name < 14; name++) {
            desk.delete(name);
        }
        due("14 guesses", desk.count(3), 14);
        due("12 are looked at", desk.bestGuesses(0), 4095);
        due("6 of them have an entry", desk.bestGuesses(1), 6 * 25 + 6 * 10);
    }

    private static void would() {
        fresh();
        desk.write(0, 3, 3, 0);
        desk.write(1, 4, 2, 0);
        desk.write(2, 5, 4, 2);
        desk.delete(0);
        desk.delete(2);
        due("first page, rising", desk.would(2, 0, 0), 0);
        due("first page, side by side", desk.would(4, 1, 0), 5);
        due("first page, falling", desk.would(4, 2, 0), 39);
        due("spoilt pages, rising", desk.would(4, 0, 1), 3);
        due("spoilt pages, side by side", desk.would(4, 1, 1), 0);
        due("spoilt pages, falling", desk.would(6, 2, 1), 4);
        due("guesses, rising", desk.would(1, 0, 2), 1);
        due("guesses, side by side", desk.would(4, 1, 2), 2);
        due("scores, rising", desk.would(1, 0, 3), 3055);
        due("scores, side by side", desk.would(4, 1, 3), 3100);
        due("scores, falling", desk.would(1, 2, 3), 3045);
        due("nothing was written", desk.count(6), 3);
        due("nothing is taken", desk.count(0), 38);
        due("no state", desk.count(11), 4);
        int[] bad = {LOW, -1, HIGH};
        for (int what : bad) {
            due("would length " + what, desk.would(what, 0, 0), INVALID);
            due("would layout " + what, desk.would(1, what, 0), INVALID);
            due("would what " + what, desk.would(1, 0, what), INVALID);
        }
        due("would length 0", desk.would(0, 0, 0), INVALID);
        due("would length 13", desk.would(13, 0, 0), INVALID);
        due("would layout 3", desk.would(1, 3, 0), INVALID);
        due("would what 4", desk.would(1, 0, 4), INVALID);
        fill();
        due("too few", desk.would(3, 0, 0), LIMIT);
        due("too few, what 4", desk.would(3, 0, 4), INVALID);
        due("just enough", desk.would(2, 2, 0), 39);
    }

    /** Leaves two pages free, 38 and 39. */
    private static void fill() {
        fresh();
        desk.write(0, 1, 12, 0);
        desk.write(1, 1, 12, 0);
        desk.write(2, 1, 12, 0);
        desk.write(3, 1, 2, 0);
    }

    private static void gentlest() {
        fresh();
        due("nothing to spoil", desk.gentlest(12), 0);
        desk.write(0, 3, 2, 0);
        desk.write(1, 4, 1, 0);
        desk.write(2, 3, 2, 2);
        desk.delete(0);
        due("1 rather than 2, which spoils as little", desk.gentlest(3), 1);
        desk.delete(2);
        due("1 alone spoils nothing", desk.gentlest(3), 1);
        for (int layout = 0; layout < 3; layout++) {
            due("all spoil as much", desk.would(1, layout, 3), 3035);
        }
        due("0 then", desk.gentlest(1), 0);
        fresh();
        desk.write(0, 3, 2, 0);
        desk.delete(0);
        due("falling", desk.gentlest(2), 2);
        due("falling of one", desk.gentlest(1), 2);
        int[] bad = {LOW, -1, 0, 13, HIGH};
        for (int length : bad) {
            due("gentlest " + length, desk.gentlest(length), INVALID);
        }
        fill();
        due("too few", desk.gentlest(3), LIMIT);
        due("just enough", desk.gentlest(2), 0);
    }

    private static void count() {
        fresh();
        desk.write(0, 3, 3, 0);
        desk.write(1, 4, 2, 0);
        desk.write(2, 5, 4, 2);
        desk.delete(0);
        desk.claim(0, 9);
        desk.delete(9);
        desk.type('x');
        int[] counts = {34, 2, 3, 1, 2, 3045, 3, 2, 1, 2, 31, 4, 1};
        for (int what = 0; what < counts.length; what++) {
            due("count " + what, desk.count(what), counts[what]);
        }
        desk.wipe(1);
        due("the sum of the scores", desk.count(5), 3013);
        desk.wipe(0);
        due("guesses", desk.count(3), 0);
        due("free pages with something", desk.count(2), 1);
        due("count -1", desk.count(-1), INVALID);
        due("count 13", desk.count(13), INVALID);
        due("count least", desk.count(LOW), INVALID);
        due("count most", desk.count(HIGH), INVALID);
        fresh();
        for (int name = 0; name < 20; name++) {
            desk.write(name, 1, 2, 0);
        }
        due("no runs", desk.count(9), 0);
        due("no longest run", desk.count(10), 0);
        desk.delete(0);
        desk.delete(19);
        desk.delete(5);
        desk.delete(6);
        due("three runs", desk.count(9), 3);
        due("the longest run", desk.count(10), 4);
    }

    private static void undo() {
        fresh();
        for (int name = 0; name < 6; name++) {
            desk.write(name, 1, 1, 0);
        }
        due("at most 4 states", desk.count(11), 4);
        for (int left = 3; left >= 0; left--) {
            due("undo", desk.undo(), left);
            due("files", desk.count(1), left + 2);
            due("written so far", desk.count(6), left + 2);
        }
        due("the oldest ones are dropped", desk.undo(), IMPOSSIBLE);
        due("nothing changed", desk.count(1), 2);

        fresh();
        for (int name = 0; name < 12; name++) {
            desk.write(name, 1, 1, 0);
            desk.delete(29);
            desk.fault(0);
        }
        for (int left = 3; left >= 0; left--) {
            due("undo after many", desk.undo(), left);
            due("files after many", desk.count(1), left + 8);
            desk.write(0, 1, 1, 0);
        }

        fresh();
        desk.write(0, 3, 3, 0);
        desk.delete(0);
        desk.type('q');
        desk.claim(0, 5);
        desk.undo();
        due("the claim is undone", desk.count(8), 0);
        due("the guess is there", desk.guessOf(0, 0), 145);
        due("the text stays", desk.count(12), 1);
        desk.undo();
        due("the entry is gone", desk.count(4), 0);
        due("nothing is deleted", desk.count(7), 0);
        due("the file is there", desk.fileOf(0, 12), 2);
        desk.undo();
        due("the page is empty", desk.pageOf(0, 1), 0);

        desk.write(1, 1, 2, 0);
        desk.delete(1);
        desk.write(2, 2, 2, 0);
        desk.undo();
        due("what was overwritten is back", desk.pageOf(0, 2), 1);
        desk.write(3, 4, 1, 0);
        due("a change after it", desk.count(11), 3);
        desk.undo();
        due("goes back to there", desk.pageOf(0, 2), 1);
    }

    private static void type() {
        fresh();
        due("type 31", desk.type(31), INVALID);
        due("type 127", desk.type(127), INVALID);
        due("type least", desk.type(LOW), INVALID);
        due("type most", desk.type(HIGH), INVALID);
        due("type 32", desk.type(32), 1);
        due("type 126", desk.type(126), 2);
        for (int length = 3; length <= 60; length++) {
            due("type", desk.type('a'), length);
        }
        due("type 61", desk.type('a'), LIMIT);
        due("type 61, out of range", desk.type(127), INVALID);
        due("length", desk.count(12), 60);
        due("no change", desk.count(11), 0);
    }

    private static void clearText() {
        fresh();
        due("clear nothing", desk.clearText(), 0);
        text("w0,1,");
        due("clear", desk.clearText(), 5);
        due("is empty", desk.count(12), 0);
        due("no fault", desk.fault(0), MISSING);
        due("no change", desk.count(11), 0);
        text("d0;");
        due("a new text", desk.fault(1), 3);
    }

    private static void faulty(String signs, int position, int reason) {
        text(signs);
        due("fault 0 of " + signs, desk.fault(0), position);
        due("fault 1 of " + signs, desk.fault(1), reason);
        if (reason > 0) {
            due("play " + signs, desk.play(), IMPOSSIBLE);
        }
    }

    private static void faultForms() {
        fresh();
        String[] bad = {";", "x", "w", "w;", "w1;", "w1,2;", "w1,2,3", "w1,2,3,", "w1,2,3,4;", "w1,,3;", "w,1,2;",
            "w 1,2,3;", "w1, 2,3;", "w001,2,3;", "w1,002,3;", "w1,2,003;", "W1,2,3;", "w-1,2,3;", "w1.2,3;", "w1,2,;",
            "d", "d;", "d1", "d1,", "d001;", "d1 ;", " d1;", "c;", "c0", "c000;", "z", "z;", "z0", "z000;", "z0,;",
            "z/;", "z:;", "z0/;", "z0:;", "ww1,1,1;", "1;"};
        for (String text : bad) {
            faulty(text, 0, 1);
        }
        faulty("z0;z1;z", 6, 1);
        faulty("z0;z01; z2;", 7, 1);
        faulty("w0,1,1;d0;;", 10, 1);
        faulty("z0;", MISSING, MISSING);
        faulty("z00;z39;", MISSING, MISSING);
        faulty("", MISSING, MISSING);
        due("fault -1", desk.fault(-1), INVALID);
        due("fault 2", desk.fault(2), INVALID);
        due("fault least", desk.fault(LOW), INVALID);
        due("fault most", desk.fault(HIGH), INVALID);
    }

    private static void faultRanges() {
        fresh();
        faulty("w30,0,1;", 0, 2);
        faulty("w0,10,1;", 0, 2);
        faulty("w0,0,0;", 0, 2);
        faulty("w0,0,00;", 0, 2);
        faulty("w0,0,13;", 0, 2);
        faulty("w99,99,99;", 0, 2);
        faulty("d30;", 0, 2);
        faulty("z40;", 0, 2);
        faulty("z39;z40;", 4, 2);
        faulty("c99;", 0, 3);
        faulty("w29,9,12;", MISSING, MISSING);
        faulty("w00,09,01;", MISSING, MISSING);
        // the form goes ahead of the range in one order, but not those behind it
        faulty("w30,0,1", 0, 1);
        faulty("d30;x", 0, 2);
    }

    private static void faultStates() {
        fresh();
        faulty("d0;", 0, 3);
        faulty("d0;x", 0, 3);
        faulty("d0;d30;", 0, 3);
        faulty("c0;", 0, 3);
        faulty("w0,1,1;w0,1,1;", 7, 3);
        faulty("w0,1,1;d0;d0;", 10, 3);
        faulty("w0,1,2;z1;", 7, 3);
        faulty("w0,1,2;z2;", MISSING, MISSING);
        faulty("w0,1,12;w1,1,12;w2,1,12;w3,1,5;", 24, 3);
        faulty("w0,1,12;w1,1,12;w2,1,12;w3,1,4;", MISSING, MISSING);
        faulty("w0,1,1;d0;c1;", 10, 3);
        faulty("w0,1,1;d0;c0;", MISSING, MISSING);
        faulty("w0,1,1;d0;w0,2,1;c0;", 17, 3);
        faulty("w0,1,2;d0;w0,2,1;c0;", 17, 3);
        due("nothing was done", desk.count(6), 0);
        due("undo", desk.undo(), IMPOSSIBLE);
        desk.write(0, 5, 2, 2);
        faulty("z0;w1,1,1;d0;d0;", 13, 3);
        faulty("d0;d1;", 3, 3);
        due("the file is there", desk.fileOf(0, 1), 2);
        desk.undo();
        due("no state", desk.count(11), 0);
        desk.write(0, 5, 2, 2);
        desk.delete(0);
        for (int name = 1; name < 7; name++) {
            desk.write(name, 1, 1, 0);
            desk.delete(name);
        }
        // the guess of file 0 has no name, its entry was pushed out
        due("no name", desk.guessOf(1, 4), MISSING);
        faulty("c1;", 0, 3);
        faulty("w0,7,2;c0;", 7, 3);
    }

    private static void play() {
        fresh();
        due("no orders", desk.play(), 0);
        due("are a change", desk.count(11), 1);
        played("w0,3,2;w1,5,2;d0;c0;d1;z02;", 6);
        due("one change", desk.count(11), 2);
        due("file 0 was claimed", desk.fileOf(0, 1), 2);
        due("its first page", desk.fileOf(0, 2), 0);
        due("written", desk.count(6), 2);
        due("deleted", desk.count(7), 2);
        due("claimed", desk.count(8), 1);
        due("entries", desk.count(4), 2);
        due("a page was wiped", desk.pageOf(2, 1), 0);
        due("the text stays", desk.count(12), 27);
        due("again", desk.play(), IMPOSSIBLE);
        due("its fault", desk.fault(0), 0);
        due("its reason", desk.fault(1), 3);
        due("undo", desk.undo(), 1);
        due("all is as it was", desk.count(6), 0);
        due("nothing on page 0", desk.pageOf(0, 1), 0);
        due("once more", desk.play(), 6);
        played("z9;z9;z9;z9;z9;z9;z9;z9;z9;z9;z9;z9;z9;z9;z9;z9;z9;z9;z9;z9;", 20);
        played("z9;w7,1,3;", 2);
        pages("into a run", 7, 2, 3, 4);
        desk.delete(0);
        played("w8,1,3;", 1);
        pages("by layout 0", 8, 0, 1, 5);
    }

    private static void errorsChangeNothing() {
        fresh();
        desk.write(0, 3, 2, 0);
        desk.delete(0);
        text("w1,1,1;d9;");
        int before = snapshot();
        desk.write(30, 0, 1, 0);
        desk.delete(5);
        desk.wipe(40);
        desk.claim(7, 0);
        desk.claim(0, 30);
        desk.play();
        desk.fault(0);
        desk.would(12, 2, 3);
        desk.gentlest(12);
        desk.bestGuesses(0);
        desk.type(10);
        due("errors and questions change nothing", snapshot(), before);
        due("undo goes to the file", desk.undo(), 1);
        due("which is there", desk.fileOf(0, 1), 2);
    }

    private static int snapshot() {
        int sum = 0;
        for (int what = 0; what <= 12; what++) {
            sum = 31 * sum + desk.count(what);
        }
        for (int page = 0; page < 40; page++) {
            for (int what = 0; what <= 6; what++) {
                sum = 31 * sum + desk.pageOf(page, what);
            }
        }
        for (int index = 0; index < 6; index++) {
            sum = 31 * sum + desk.journalOf(index, 0);
        }
        return sum;
    }
}
