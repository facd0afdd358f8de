/** The sentences of the heads "Guesses" and "Claims". */
public final class GuessesTest {
    /**
     * Only 0 to 3 are free: 0 tells that 2 is the next page, 3 that 1 is; so the guess of 0 finds 2 by the chain
     * or, if that is not possible, 1 by the neighbor.
     */
    private static final String CROSSED = """
            lowest 4
            write 5 1 1 0 = 0 / write 6 1 1 0 = 1 / write 7 1 1 0 = 2
            delete 6 / write 1 6 2 2 = 3
            delete 5 / delete 7 / write 0 6 2 0 = 0
            delete 0 / delete 1
            """;

    /** Only 0 to 5 are free; file 1 has 5 and 4, and a lost file had 3, 2, 1, 0, of which 2 is wiped. */
    private static final String BELOW_A_FILE = """
            lowest 6
            write 1 6 2 2 = 5 / write 0 6 4 2 = 3
            delete 0 / wipe 2 = 2
            """;

    public static void main(String[] args) {
        firstPages();
        lengths();
        chains();
        noChains();
        noNeighbors();
        endOfTheDisk();
        scores();
        names();
        order();
        claims();
        claimedPages();
        claimsAndJournal();
        Sentences.end();
    }

    private static void firstPages() {
        Sentences.test("There is a guess for each free page on which there is a first page: none", """
                guesses 0
                write 0 1 2 0 = 0
                guesses 0
                delete 0
                guesses 1
                wipe 0 = 1
                guesses 0
                pageOf 1 1 = 2
                """);
        Sentences.test("There is a guess for each free page on which there is a first page: all forty", """
                # in 0..29: write # 1 1 0 = #
                # in 0..29: delete #
                # in 0..9: write # 1 1 2 = 39-#
                # in 0..9: delete #
                guesses 40
                # in 0..5: guessOf # 0 = 125 / guessOf # 10 = #+30
                # in 6..35: guessOf # 0 = 110 / guessOf # 10 = #+-6
                # in 36..39: guessOf # 0 = 110 / guessOf # 10 = #
                count 5 = 3490
                """);
        Sentences.test("There is a guess for each free page on which there is a first page: 29 files between", """
                # in 0..29: write # 1 1 0 = #
                delete 29
                guesses 1
                guess 0 = 125 1 0 1 29 0 0 0 : 29
                # in 0 28: pageOf # 6 = 0
                """);
    }

    private static void lengths() {
        Sentences.test("as long as it has fewer pages than the length that is told on its first page: 1", """
                write 0 4 3 0 = 0 / delete 0 / write 1 4 1 0 = 0 / delete 1
                guess 0 = 125 1 0 4 1 0 0 0 : 0
                pageOf 1 6 = 0
                """);
        Sentences.test("as long as it has fewer pages than the length that is told on its first page: 2", """
                write 0 4 3 0 = 0 / delete 0 / write 1 4 2 0 = 0 / delete 1
                guess 0 = 135 2 0 4 1 1 0 0 : 0 1
                pageOf 1 6 = 1 / pageOf 2 6 = 0
                """);
        Sentences.test("as long as it has fewer pages than the length that is told on its first page: 12", """
                write 0 4 12 0 = 0 / write 1 4 12 0 = 12 / delete 0 / delete 1
                guess 0 = 235 12 0 4 0 11 0 0 : 0 1 2 3 4 5 6 7 8 9 10 11
                guess 1 = 235 12 0 4 1 11 0 0 : 12 13 14 15 16 17 18 19 20 21 22 23
                """);
    }

    private static void chains() {
        Sentences.test("the next page is the one that is told on its last page so far", CROSSED + """
                guesses 2
                guess 0 = 135 2 0 6 0 1 0 0 : 0 2
                guess 1 = 135 2 0 6 1 1 0 0 : 3 1
                """);
        Sentences.test("the next page is the one that is told on its last page so far: falling", """
                write 0 6 4 2 = 39 / delete 0
                guess 0 = 155 4 0 6 0 3 0 0 : 39 38 37 36
                """);
        Sentences.test("the one that is told on its last page so far: again by the chain behind a neighbor", """
                write 4 1 1 0 = 0 / write 5 1 4 0 = 1 / write 6 1 1 0 = 5
                write 7 1 12 0 = 6 / write 8 1 12 0 = 18 / write 9 1 9 0 = 30
                delete 4 / delete 6
                write 0 6 3 0 = 0 / pages 0 = 0 5 39
                delete 5 / write 1 6 3 2 = 4 / pages 1 = 4 3 2
                delete 1 / delete 0 / wipe 3 = 2
                guess 0 = 145 3 0 6 0 2 0 1 : 0 5 39
                guess 1 = 139 3 0 6 1 1 1 1 : 4 5 39
                """);
    }

    private static void noChains() {
        Sentences.test("if there is one told: none, and a neighbor", """
                lowest 6
                write 0 6 6 0 = 0 / delete 0
                write 1 7 1 2 = 5 / write 2 6 2 2 = 4 / delete 1
                write 3 6 2 2 = 5 / pages 3 = 5 2
                delete 3 / delete 2
                guesses 3
                guess 0 = 137 4 2 6 0 2 1 2 : 0 1 2 3
                guess 1 = 135 2 0 6 2 1 0 1 : 4 3
                guess 2 = 135 2 0 6 3 1 0 1 : 5 2
                # in 2 3: pageOf # 6 = 2
                # in 0 1 4 5: pageOf # 6 = 1
                """);
        Sentences.test("if there is one told: none, and no neighbor", """
                lowest 4
                write 0 6 4 0 = 0 / delete 0 / write 1 6 2 2 = 3 / delete 1
                guess 0 = 139 3 1 6 0 2 0 1 : 0 1 2
                guess 1 = 135 2 0 6 1 1 0 1 : 3 2
                """);
        Sentences.test("it is free: it is not, and there is a neighbor", CROSSED + """
                write 8 6 2 2 = 3 / pages 8 = 3 2
                guesses 1
                guess 0 = 129 2 0 6 0 0 1 0 : 0 1
                delete 8
                guess 0 = 135 2 0 6 0 1 0 1 : 0 2
                guess 1 = 135 2 0 6 8 1 0 1 : 3 2
                """);
        Sentences.test("it is free: it is not, and there is no neighbor", """
                lowest 3
                write 0 6 3 2 = 2 / delete 0 / write 1 6 2 0 = 0
                guesses 1
                guess 0 = 113 1 2 6 0 0 0 0 : 2
                """);
        Sentences.test("a further page with the same style is on it: one of another style", CROSSED + """
                write 8 7 2 2 = 3 / delete 8
                guesses 2
                guess 0 = 135 2 0 7 8 1 0 0 : 3 2
                guess 1 = 129 2 0 6 0 0 1 0 : 0 1
                """);
        Sentences.test("a further page with the same style is on it: a first page", CROSSED + """
                write 9 1 1 2 = 3 / write 8 6 1 2 = 2 / delete 8
                guesses 2
                guess 0 = 129 2 0 6 0 0 1 0 : 0 1
                guess 1 = 125 1 0 6 8 0 0 0 : 2
                """);
        Sentences.test("a further page with the same style is on it: nothing is", CROSSED + """
                wipe 2 = 2
                guesses 2
                guess 0 = 135 2 0 6 1 1 0 1 : 3 1
                guess 1 = 129 2 0 6 0 0 1 1 : 0 1
                """);
        Sentences.test("it is not a page of this guess yet: it is, and there is a neighbor", """
                lowest 5
                write 0 6 5 0 = 0 / delete 0 / write 1 6 4 2 = 4 / delete 1
                guess 0 = 155 4 0 6 1 3 0 1 : 4 3 2 1
                guess 1 = 137 4 1 6 0 1 2 1 : 0 1 2 3
                """);
        Sentences.test("it is not a page of this guess yet: it is, and there is no neighbor", """
                lowest 4
                write 0 6 4 0 = 0 / delete 0 / write 1 6 3 2 = 3 / delete 1
                guess 0 = 145 3 0 6 1 2 0 1 : 3 2 1
                guess 1 = 133 3 1 6 0 1 1 1 : 0 1 2
                """);
    }

    private static void noNeighbors() {
        Sentences.test("the page whose number is greater by 1: it is not free", BELOW_A_FILE + """
                guesses 1
                guess 0 = 107 1 3 6 0 0 0 0 : 3
                """);
        Sentences.test("the page whose number is greater by 1: it is free, the one behind it has a first page",
                BELOW_A_FILE + """
                delete 1
                guess 0 = 135 2 0 6 1 1 0 1 : 5 4
                guess 1 = 117 2 2 6 0 0 1 1 : 3 4
                """);
        Sentences.test("the page whose number is greater by 1: it has another style", BELOW_A_FILE + """
                delete 1 / write 2 7 2 2 = 5 / delete 2
                guess 0 = 135 2 0 7 2 1 0 0 : 5 4
                guess 1 = 107 1 3 6 0 0 0 0 : 3
                """);
        Sentences.test("the page whose number is greater by 1: nothing is on it", BELOW_A_FILE + """
                delete 1 / wipe 4 = 2
                guess 0 = 119 1 1 6 1 0 0 0 : 5
                guess 1 = 107 1 3 6 0 0 0 0 : 3
                """);
        Sentences.test("the page whose number is greater by 1: a first page is on it", BELOW_A_FILE + """
                delete 1 / write 4 1 1 2 = 5 / write 3 6 1 2 = 4 / delete 3
                guess 0 = 125 1 0 6 3 0 0 0 : 4
                guess 1 = 107 1 3 6 0 0 0 0 : 3
                """);
        Sentences.test("the page whose number is greater by 1: it is a page of this guess already", """
                lowest 5
                write 0 6 5 2 = 4 / delete 0 / wipe 0 = 2
                guess 0 = 149 4 1 6 0 3 0 0 : 4 3 2 1
                """);
        Sentences.test("otherwise no more pages are found: not the ones behind a gap", """
                write 0 6 12 0 = 0 / delete 0 / wipe 1 = 2
                guess 0 = 59 1 11 6 0 0 0 0 : 0
                # in 1 2 11: pageOf # 6 = 0
                """);
        Sentences.test("otherwise no more pages are found: all but the last one", """
                write 0 6 12 0 = 0 / delete 0 / wipe 11 = 2
                guess 0 = 219 11 1 6 0 10 0 0 : 0 1 2 3 4 5 6 7 8 9 10
                """);
    }

    private static void endOfTheDisk() {
        Sentences.test("if that is a page: none is behind page 39, which is the first one", """
                highest 2
                write 0 6 2 2 = 39 / delete 0 / wipe 38 = 2
                guess 0 = 119 1 1 6 0 0 0 0 : 39
                """);
        Sentences.test("if that is a page: none is behind page 39, which is the last one", """
                write 4 1 1 0 = 0 / write 5 1 4 0 = 1 / write 6 1 1 0 = 5
                write 7 1 12 0 = 6 / write 8 1 12 0 = 18 / write 9 1 9 0 = 30
                delete 4 / delete 6
                write 0 6 3 0 = 0 / pages 0 = 0 5 39
                delete 5 / write 1 6 4 2 = 4 / pages 1 = 4 3 2 1
                delete 1 / delete 0 / wipe 3 = 2
                guess 0 = 145 3 0 6 0 2 0 1 : 0 5 39
                guess 1 = 133 3 1 6 1 1 1 1 : 4 5 39
                """);
        Sentences.test("the page whose number is greater by 1: page 39", """
                highest 4
                write 1 1 1 0 = 36 / write 2 6 3 0 = 37
                delete 2 / delete 1
                write 0 6 2 0 = 36 / write 3 6 1 2 = 39
                delete 3 / delete 0
                guess 0 = 135 2 0 6 0 1 0 0 : 36 37
                guess 1 = 125 1 0 6 3 0 0 0 : 39
                undo / undo / undo / undo
                guess 0 = 145 3 0 6 2 2 0 0 : 37 38 39
                """);
    }

    private static void scores() {
        Sentences.test("The score of a guess is 10 for its first page", """
                write 0 6 1 0 = 0 / delete 0
                # in 1..6: write # 7 1 2 = 39 / delete #
                wipe 39 = 1
                guess 0 = 110 1 0 6 - 0 0 0 : 0
                count 5 = 3010
                """);
        Sentences.test("6 less for each page that is missing: the least score", """
                write 0 6 12 0 = 0 / delete 0 / wipe 1 = 2
                guess 0 = 59 1 11 6 0 0 0 0 : 0
                # in 1..6: write # 7 1 2 = 39 / delete #
                guess 1 = 44 1 11 6 - 0 0 0 : 0
                count 5 = 2969
                wipe 39 = 1
                count 5 = 2944
                bestGuesses 0 = 0 / bestGuesses 1 = 0
                """);
        Sentences.test("10 for each step by the chain, and 15 more: the greatest score", """
                write 0 6 12 2 = 39 / delete 0
                guessOf 0 0 = 235
                count 5 = 3135
                """);
        Sentences.test("15 more if the journal has an entry with its first page and its style: the oldest one", """
                write 0 6 1 0 = 0 / delete 0
                # in 1..5: write # 7 1 2 = 39 / delete #
                entry 5 = 0 0 6
                guess 0 = 125 1 0 6 0 0 0 0 : 0
                guess 1 = 125 1 0 7 5 0 0 0 : 39
                write 6 7 1 2 = 39 / delete 6
                guess 0 = 125 1 0 7 6 0 0 0 : 39
                guess 1 = 110 1 0 6 - 0 0 0 : 0
                """);
        Sentences.test("15 more if the journal has an entry with its first page and its style: several", """
                write 0 6 1 0 = 0 / delete 0 / write 1 6 1 0 = 0 / delete 1 / write 2 6 1 0 = 0 / delete 2
                # in 0..2: entry # = 2-# 0 6
                guess 0 = 125 1 0 6 2 0 0 0 : 0
                """);
        Sentences.test("15 more if the journal has an entry with its first page and its style: its style alone", """
                write 0 6 1 0 = 0 / delete 0
                # in 1..5: write # 7 1 2 = 39 / delete #
                write 6 6 1 2 = 39 / delete 6
                guess 0 = 125 1 0 6 6 0 0 0 : 39
                guess 1 = 110 1 0 6 6 0 0 0 : 0
                """);
        Sentences.test("15 more if the journal has an entry with its first page and its style: another style there", """
                write 0 5 1 0 = 0 / delete 0 / write 1 6 1 0 = 0 / delete 1
                guess 0 = 125 1 0 6 1 0 0 0 : 0
                delete 1 = NOT_POSSIBLE
                # in 2..5: write # 7 1 2 = 39 / delete #
                entry 5 = 0 0 5 / entry 4 = 1 0 6
                guess 0 = 125 1 0 6 1 0 0 0 : 0
                """);
    }

    private static void names() {
        Sentences.test("The name of a guess is that of the latest entry with its first page and its style: "
                + "not that of a later one with its style", """
                write 0 6 1 0 = 0 / write 1 6 1 0 = 1 / delete 0 / delete 1
                guess 0 = 125 1 0 6 0 0 0 0 : 0
                guess 1 = 125 1 0 6 1 0 0 0 : 1
                """);
        Sentences.test("The name of a guess is that of the latest entry with its first page and its style: of two", """
                write 9 6 1 0 = 0 / delete 9 / write 4 6 1 0 = 0 / delete 4
                write 5 6 1 2 = 39 / delete 5
                guessOf 0 4 = 4 / guessOf 1 4 = 5
                """);
        Sentences.test("if there is none, that of the latest entry with its style", """
                write 0 6 1 0 = 0 / delete 0
                # in 1..4: write # 7 1 2 = 39 / delete #
                write 5 6 1 2 = 39 / delete 5 / write 6 6 1 2 = 39 / delete 6
                entry 5 = 1 39 7
                guess 1 = 110 1 0 6 6 0 0 0 : 0
                claim 1 -1 = 1 / pages 6 = 0
                """);
        Sentences.test("if there is none, that of the latest entry with its style: the oldest entry", """
                write 0 6 1 0 = 0 / delete 0
                write 1 6 1 2 = 39 / delete 1
                # in 2..6: write # 7 1 2 = 39 / delete #
                entry 5 = 1 39 6
                guess 1 = 110 1 0 6 1 0 0 0 : 0
                write 7 7 1 2 = 39 / delete 7
                guess 1 = 110 1 0 6 - 0 0 0 : 0
                """);
        Sentences.test("if there is none, it has no name", """
                write 0 6 2 0 = 0 / delete 0
                # in 1..6: write # 7 1 2 = 39 / delete #
                guess 1 = 120 2 0 6 - 1 0 0 : 0 1
                guessOf 1 4 = NOT_FOUND
                claim 1 -1 = NOT_POSSIBLE
                claim 1 0 = 2
                """);
        Sentences.test("The name of a guess: names 0 and 29, style 0", """
                write 0 0 1 0 = 0 / write 29 0 1 0 = 1 / delete 0 / delete 29
                guess 0 = 125 1 0 0 0 0 0 0 : 0
                guess 1 = 125 1 0 0 29 0 0 0 : 1
                """);
    }

    private static void order() {
        Sentences.test("those with a greater score first, of several those with the lower first page", """
                write 0 1 1 0 = 0 / write 1 2 2 0 = 1 / write 2 3 1 0 = 3 / write 3 4 3 0 = 4 / write 4 5 2 0 = 7
                # in 4 3 2 1 0: delete #
                guesses 5
                # in 0..4: guessOf # 4 / guessOf # 0
                guess 0 = 145 3 0 4 3 2 0 0 : 4 5 6
                guess 1 = 135 2 0 2 1 1 0 0 : 1 2
                guess 2 = 135 2 0 5 4 1 0 0 : 7 8
                guess 3 = 125 1 0 1 0 0 0 0 : 0
                guess 4 = 125 1 0 3 2 0 0 0 : 3
                """);
        Sentences.test("of several those with the lower first page: all have the same score", """
                # in 0..5: write # # 1 2 = 39-#
                # in 0..5: delete #
                guesses 6
                # in 0..5: guessOf # 10 = #+34 / guessOf # 0 = 125 / guessOf # 4 = 5-#
                """);
        Sentences.test("those with a greater score first: a score of 0 between 1 and less", """
                write 0 1 8 0 = 0 / write 1 2 5 0 = 8 / write 2 3 6 0 = 13
                delete 0 / delete 1 / delete 2
                wipe 3 = 2 / wipe 9 = 2 / wipe 14 = 2
                guess 0 = 115 3 5 1 0 2 0 0 : 0 1 2
                guess 1 = 101 1 4 2 1 0 0 0 : 8
                guess 2 = 95 1 5 3 2 0 0 0 : 13
                # in 3..6: write # 7 1 2 = 39 / delete #
                guess 1 = 101 1 4 2 1 0 0 0 : 8
                guess 2 = 100 3 5 1 - 2 0 0 : 0 1 2
                guess 3 = 95 1 5 3 2 0 0 0 : 13
                """);
    }

    private static void claims() {
        Sentences.test("there is a file with this name, the style and the pages of the guess", CROSSED + """
                claim 1 20 = 2
                fileOf 20 0 = 6 / pages 20 = 3 1 / fileOf 20 4 = 0
                guesses 1
                claim 0 -1 = 2
                fileOf 0 0 = 6 / pages 0 = 0 2
                count 0 = 0
                """);
        Sentences.test("To claim a guess: one of 1 page and one of 12", """
                write 0 0 1 0 = 0 / write 1 9 12 0 = 1 / delete 0 / delete 1
                claim 1 -1 = 1 / pages 0 = 0 / fileOf 0 0 = 0
                claim 0 -1 = 12 / pages 1 = 1 2 3 4 5 6 7 8 9 10 11 12 / fileOf 1 0 = 9
                """);
        Sentences.test("To claim a guess: a page that it shares is the other guess's no more", """
                lowest 4
                write 0 6 4 0 = 0 / delete 0 / write 1 6 2 2 = 3 / delete 1
                claim 0 -1 = 3 / pages 0 = 0 1 2
                guesses 1
                guess 0 = 119 1 1 6 1 0 0 0 : 3
                """);
    }

    private static void claimedPages() {
        Sentences.test("its length is that of its pages", """
                write 0 6 4 0 = 0 / delete 0 / wipe 3 = 2
                pageOf 0 3 = 4 / pageOf 2 4 = 3
                claim 0 -1 = 3
                page 0 = 0 1 6 3 1 0 0
                page 1 = 0 2 6 - 2 0 0
                page 2 = 0 2 6 - - 0 0
                page 3 = 1 0 - - - - 0
                delete 0
                guess 0 = 145 3 0 6 0 2 0 0 : 0 1 2
                """);
        Sentences.test("its length is that of its pages: 1 of 12", """
                write 0 6 12 0 = 0 / delete 0 / wipe 1 = 2
                claim 0 5 = 1
                page 0 = 0 1 6 1 - 5 0
                page 2 = 1 2 6 - 3 - 0
                delete 5
                guess 0 = 125 1 0 6 5 0 0 0 : 0
                """);
        Sentences.test("each page tells the next one: also behind a step by the neighbor", CROSSED + """
                wipe 2 = 2
                pageOf 0 4 = 2
                claim 1 20 = 2 / pages 20 = 0 1
                page 0 = 0 1 6 2 1 20 0
                page 1 = 0 2 6 - - 20 0
                guess 0 = 119 1 1 6 1 0 0 0 : 3
                delete 20
                guess 0 = 135 2 0 6 20 1 0 1 : 0 1
                guess 1 = 135 2 0 6 1 1 0 1 : 3 1
                """);
        Sentences.test("each page tells the next one: in a loop of what was told", """
                lowest 5
                write 0 6 5 0 = 0 / delete 0 / write 1 6 4 2 = 4 / delete 1
                claim 1 7 = 4 / pages 7 = 0 1 2 3
                # in 0..2: pageOf # 4 = #+1
                pageOf 3 4 = NOT_FOUND / pageOf 0 3 = 4
                fileOf 7 4 = 1
                """);
    }

    private static void claimsAndJournal() {
        Sentences.test("The journal stays as it is.", """
                # in 0..6: write # # 1 0 = #
                # in 0..6: delete #
                # in 0..5: entry # = 6-# 6-# 6-#
                claim 0 -1 = 1
                # in 0..5: entry # = 6-# 6-# 6-#
                count 4 = 6
                claim 0 20 = 1
                # in 0..5: entry # = 6-# 6-# 6-#
                delete 20
                entry 0 = 20 2 2 / entry 5 = 2 2 2
                """);
        Sentences.test("The journal stays as it is: the entry of a claimed file is still there", """
                write 0 6 2 0 = 0 / delete 0
                claim 0 -1 = 2
                entry 0 = 0 0 6 / count 4 = 1
                delete 0
                entry 0 = 0 0 6 / entry 1 = 0 0 6 / count 4 = 2
                """);
    }
}
