/** Promises 9 to 15: each argument at its ends and beyond them, each error, and the states at their ends. */
public final class GuessCallsTest {
    /** The guesses 0, of 4 pages with 2 missing, 1 and 2; 1 and 2 share a page with 0, but none with each other. */
    private static final String TWO_BESIDE_ONE = """
            lowest 6
            write 0 6 6 0 = 0 / delete 0
            write 1 7 1 2 = 5 / write 2 6 2 2 = 4 / delete 1
            write 3 6 2 2 = 5 / delete 3 / delete 2
            """;

    public static void main(String[] args) {
        guessOf();
        guessOfErrors();
        claim();
        claimErrors();
        bestGuesses();
        bestOfTwelve();
        bestOfEqualSets();
        bestOfNone();
        would();
        wouldBe();
        wouldErrors();
        gentlest();
        gentlestOfEqual();
        gentlestErrors();
        count();
        runs();
        countErrors();
        undo();
        Sentences.end();
    }

    private static void guessOf() {
        Sentences.test("guessOf: a guess of 1 page, style 0, name 0, page 0", """
                write 0 0 1 0 = 0 / delete 0
                guess 0 = 125 1 0 0 0 0 0 0 : 0
                guesses 1
                """);
        Sentences.test("guessOf: a guess of 12 pages, style 9, name 29, page 39", """
                write 29 9 12 2 = 39 / delete 29
                guess 0 = 235 12 0 9 29 11 0 0 : 39 38 37 36 35 34 33 32 31 30 29 28
                guesses 1
                """);
        Sentences.test("guessOf: how many other guesses share a page with it", Desks.CROSSING + """
                guess 0 = 145 3 0 6 0 2 0 2 : 0 2 4
                guess 1 = 139 3 0 6 1 1 1 2 : 1 2 4
                guess 2 = 129 2 0 6 2 0 1 2 : 3 4
                guesses 3
                """);
        Sentences.test("guessOf: how many other guesses share a page with it, not all", TWO_BESIDE_ONE + """
                guessOf 0 7 = 2 / guessOf 1 7 = 1 / guessOf 2 7 = 1
                claim 1 -1
                guess 0 = 135 2 0 6 3 1 0 1 : 5 2
                guess 1 = 127 3 3 6 0 2 0 1 : 0 1 2
                guesses 2
                """);
        Sentences.test("guessOf: more than 12 guesses", Desks.BUSY + """
                guesses 14
                guess 0 = 125 1 0 1 8 0 0 0 : 8
                guess 5 = 125 1 0 1 13 0 0 0 : 13
                guess 6 = 110 1 0 1 13 0 0 0 : 0
                guess 12 = 110 1 0 1 13 0 0 0 : 6
                guess 13 = 110 1 0 1 13 0 0 0 : 7
                """);
    }

    private static void guessOfErrors() {
        String errors = """
                # in LEAST -1: guessOf # 0 = INVALID_ARGUMENT / guessOf # 10 = INVALID_ARGUMENT
                # in LEAST -1 8 9 22 23 MOST: guessOf 0 # = INVALID_ARGUMENT / guessOf 40 # = INVALID_ARGUMENT
                # in 40 MOST: guessOf # 0 = NOT_FOUND / guessOf # 7 = NOT_FOUND / guessOf # 21 = NOT_FOUND
                """;
        Sentences.test("guessOf: its errors, no guesses", errors + """
                # in 0..7 10..21: guessOf 0 # = NOT_FOUND
                """);
        Sentences.test("guessOf: its errors, a full disk", Desks.FULL + errors);
        Sentences.test("guessOf: its errors, many guesses", Desks.BUSY + errors + """
                guessOf 13 0 = 110 / guessOf 14 0 = NOT_FOUND
                """);
        Sentences.test("guessOf: NOT_FOUND if there are not so many guesses", """
                write 0 1 1 0 = 0 / delete 0
                guessOf 0 0 = 125 / guessOf 1 0 = NOT_FOUND / guessOf 1 10 = NOT_FOUND
                claim 0 -1
                guessOf 0 0 = NOT_FOUND
                """);
        Sentences.test("guessOf: NOT_FOUND if it has no name", """
                write 0 6 1 0 = 0 / delete 0
                # in 1..6: write # 7 1 2 = 39 / delete #
                guessOf 0 4 = 6 / guessOf 1 4 = NOT_FOUND / guessOf 1 3 = 6
                """);
        Sentences.test("guessOf: NOT_FOUND if it has not so many pages", """
                write 0 6 12 0 = 0 / write 1 5 3 2 = 39 / delete 0 / wipe 11 / delete 1
                guessOf 0 20 = 10 / guessOf 0 21 = NOT_FOUND
                guessOf 1 12 = 37 / guessOf 1 13 = NOT_FOUND / guessOf 1 21 = NOT_FOUND
                """);
    }

    private static void claim() {
        Sentences.test("claim: Returns how many pages the file has, under the least name and the greatest one", """
                write 5 6 1 0 = 0 / write 6 5 12 0 = 1 / delete 5 / delete 6
                claim 1 0 = 1 / pages 0 = 0 / fileOf 5 0 = NOT_FOUND
                claim 0 29 = 12 / pages 29 = 1 2 3 4 5 6 7 8 9 10 11 12 / fileOf 6 0 = NOT_FOUND
                counts = 27 2 0 0 2 3000 2 2 2 1 27 4 0
                """);
        Sentences.test("claim: -1 for its own name", """
                write 0 6 1 0 = 0 / write 29 5 1 0 = 1 / delete 0 / delete 29
                claim 1 -1 = 1 / pages 29 = 1
                claim 0 -1 = 1 / pages 0 = 0
                """);
        Sentences.test("claim: the last one of many guesses", Desks.BUSY + """
                claim 13 0 = 1 / pages 0 = 7
                guesses 13
                claim 12 -1 = 1 / pages 13 = 6
                claim 0 -1 = 1 / pages 8 = 8
                counts = 31 5 11 11 6 3185 16 14 3 3 20 4 60
                """);
        Sentences.test("claim: a guess with no name, under another", """
                write 0 6 1 0 = 0 / delete 0
                # in 1..6: write # 7 1 2 = 39 / delete #
                claim 1 -1 = NOT_POSSIBLE
                claim 1 0 = 1 / pages 0 = 0
                """);
    }

    private static void claimErrors() {
        String errors = """
                # in LEAST -1: claim # 0 = INVALID_ARGUMENT / claim # -1 = INVALID_ARGUMENT
                # in LEAST -2 30 MOST: claim 0 # = INVALID_ARGUMENT / claim 40 # = INVALID_ARGUMENT
                # in 40 MOST: claim # 0 = NOT_POSSIBLE / claim # -1 = NOT_POSSIBLE / claim # 29 = NOT_POSSIBLE
                """;
        Sentences.test("claim: its errors, no guesses", errors + """
                claim 0 0 = NOT_POSSIBLE / claim 0 -1 = NOT_POSSIBLE
                """);
        Sentences.test("claim: its errors, a full disk", Desks.FULL + errors);
        Sentences.test("claim: its errors, many guesses", Desks.BUSY + errors + """
                claim 14 0 = NOT_POSSIBLE / claim 14 -1 = NOT_POSSIBLE
                claim 0 14 = NOT_POSSIBLE / claim 13 20 = NOT_POSSIBLE
                """);
        Sentences.test("claim: NOT_POSSIBLE if there is a file with the name", """
                write 0 6 1 0 = 0 / delete 0 / write 0 7 1 2 = 39 / write 1 7 1 2 = 38
                claim 0 -1 = NOT_POSSIBLE / claim 0 0 = NOT_POSSIBLE / claim 0 1 = NOT_POSSIBLE
                claim 0 2 = 1
                """);
    }

    private static void bestGuesses() {
        Sentences.test("bestGuesses: those that do not share a page with one another: all", Desks.FULL + """
                delete 0 / delete 1 / delete 2 / delete 3
                bestGuesses 0 = 15 / bestGuesses 1 = 460
                """);
        Sentences.test("bestGuesses: and have the greatest sum: two beside the greatest one", TWO_BESIDE_ONE + """
                bestGuesses 0 = 6 / bestGuesses 1 = 70
                """);
        Sentences.test("bestGuesses: and have the greatest sum: one of three", Desks.CROSSING + """
                bestGuesses 0 = 1 / bestGuesses 1 = 45
                wipe 0 = 1
                bestGuesses 0 = 1 / bestGuesses 1 = 39
                """);
        String errors = "# in LEAST -1 2 10 MOST: bestGuesses # = INVALID_ARGUMENT\n";
        Sentences.test("bestGuesses: INVALID_ARGUMENT if what out of range", errors);
        Sentences.test("bestGuesses: INVALID_ARGUMENT if what out of range, many guesses", Desks.BUSY + errors);
        Sentences.test("bestGuesses: INVALID_ARGUMENT if what out of range, a full disk", Desks.FULL + errors);
    }

    private static void bestOfTwelve() {
        Sentences.test("bestGuesses: of the first 12 guesses (others are not looked at)", Desks.BUSY + """
                guesses 14
                bestGuesses 0 = 4095 / bestGuesses 1 = 210
                wipe 7 = 1 / guesses 13
                bestGuesses 0 = 4095 / bestGuesses 1 = 210
                wipe 6 = 1 / guesses 12
                bestGuesses 0 = 4095 / bestGuesses 1 = 210
                wipe 5 = 1 / guesses 11
                bestGuesses 0 = 2047 / bestGuesses 1 = 200
                """);
        Sentences.test("bestGuesses: others are not looked at, also if guesses of the first 12 share a page", """
                # in 0..11: write # 5 1 0 = #
                write 12 6 1 0 = 12 / write 13 6 1 0 = 13 / write 14 6 1 0 = 14 / write 15 6 1 0 = 15
                delete 12 / delete 14 / write 20 6 2 0 = 12 / pages 20 = 12 14
                delete 13 / write 21 6 2 0 = 13 / pages 21 = 13 16
                delete 20 / delete 21 / wipe 16 = 2
                guess 0 = 135 2 0 6 20 1 0 1 : 12 14
                guess 1 = 129 2 0 6 21 0 1 1 : 13 14
                # in 0..11: delete #
                guesses 14
                # in 0..5: guessOf # 10 = #+6 / guessOf # 0 = 125
                guessOf 6 0 = 120 / guessOf 6 10 = 12 / guessOf 7 0 = 114 / guessOf 7 10 = 13
                # in 8..13: guessOf # 10 = #+-8 / guessOf # 0 = 110
                bestGuesses 0 = 3967 / bestGuesses 1 = 210
                """);
    }

    private static void bestOfEqualSets() {
        Sentences.test("bestGuesses: of several such sets the one that is the lowest as a number: 1 rather than 6", """
                # in 0..11: write #+10 8 1 0 = #
                # in 10 12 14 16 18 20: delete #
                write 0 6 6 0 = 0 / pages 0 = 0 2 4 6 8 10
                delete 13 / write 2 6 2 0 = 3 / pages 2 = 3 12
                delete 11 / write 1 6 2 0 = 1 / pages 1 = 1 13
                # in 2 15 17 19 21 0 1: delete #
                # in 5 7 9 11: wipe # = 1
                # in 8 12 13: wipe # = 2
                guess 0 = 143 4 2 6 0 3 0 2 : 0 2 4 6
                guess 1 = 129 2 0 6 1 0 1 1 : 1 2
                guess 2 = 114 2 0 6 1 0 1 1 : 3 4
                bestGuesses 0 = 1 / bestGuesses 1 = 43
                """);
        Sentences.test("bestGuesses: of several such sets the one that is the lowest as a number: 1 rather than 2", """
                lowest 4
                write 5 1 1 0 = 0 / write 6 1 1 0 = 1 / write 7 1 1 0 = 2
                delete 6 / write 1 6 2 2 = 3
                delete 5 / delete 7 / write 0 6 2 0 = 0
                delete 0 / delete 1 / wipe 2 = 2
                bestGuesses 0 = 1 / bestGuesses 1 = 35
                claim 1 20 = 2 / delete 20
                guess 0 = 135 2 0 6 20 1 0 1 : 0 1
                guess 1 = 135 2 0 6 1 1 0 1 : 3 1
                bestGuesses 0 = 1 / bestGuesses 1 = 35
                """);
    }

    private static void bestOfNone() {
        Sentences.test("bestGuesses: also none", """
                bestGuesses 0 = 0 / bestGuesses 1 = 0
                write 0 1 1 0 = 0
                bestGuesses 0 = 0 / bestGuesses 1 = 0
                delete 0
                bestGuesses 0 = 1 / bestGuesses 1 = 25
                """);
        Sentences.test("bestGuesses: no set has a sum above 0", """
                write 0 1 8 0 = 0 / write 1 2 5 0 = 8 / write 2 3 6 0 = 13
                delete 0 / delete 1 / delete 2
                wipe 3 = 2 / wipe 9 = 2 / wipe 14 = 2
                bestGuesses 0 = 3 / bestGuesses 1 = 16
                # in 3..6: write # 7 1 2 = 39 / delete #
                guessOf 0 0 = 125 / guessOf 1 0 = 101 / guessOf 2 0 = 100 / guessOf 3 0 = 95
                bestGuesses 0 = 3 / bestGuesses 1 = 26
                wipe 39 = 1
                bestGuesses 0 = 1 / bestGuesses 1 = 1
                wipe 8 = 1
                guessOf 0 0 = 100 / guessOf 1 0 = 95
                bestGuesses 0 = 0 / bestGuesses 1 = 0
                wipe 0 = 1
                guessOf 0 0 = 95
                bestGuesses 0 = 0 / bestGuesses 1 = 0
                """);
    }

    private static void would() {
        Sentences.test("would: a new disk, the least and the greatest arguments", """
                would 1 0 0 = 0 / would 1 0 1 = 0 / would 1 0 2 = 0 / would 1 0 3 = 3000
                would 12 0 0 = 0 / would 12 1 0 = 0 / would 12 2 0 = 39 / would 1 2 0 = 39
                would 12 2 1 = 0 / would 12 2 2 = 0 / would 12 2 3 = 3000
                """);
        Sentences.test("would: a busy disk", Desks.BUSY + """
                would 1 0 0 = 0 / would 1 0 1 = 1 / would 1 0 2 = 13 / would 1 0 3 = 3220
                would 12 0 0 = 0 / would 12 0 1 = 12 / would 12 0 2 = 2 / would 12 0 3 = 3050
                would 1 1 0 = 0 / would 12 1 0 = 0 / would 12 1 1 = 12 / would 12 1 2 = 2 / would 12 1 3 = 3050
                would 1 2 0 = 34 / would 12 2 0 = 34 / would 12 2 1 = 0 / would 12 2 2 = 14 / would 12 2 3 = 3230
                """);
        Sentences.test("would: as many pages as are free", """
                lowest 5
                would 5 0 0 = 0 / would 5 1 0 = 0 / would 5 2 0 = 4
                # in 0..2: would 6 # 0 = LIMIT_REACHED
                """);
        Sentences.test("would: the first page that it would get, by layout 1", """
                # in 0..6: write # 1 1 0 = #
                delete 1 / delete 3 / delete 4
                would 1 1 0 = 1 / would 2 1 0 = 3 / would 3 1 0 = 7 / would 12 1 0 = 7
                would 2 1 1 = 2 / would 3 1 1 = 0 / would 2 0 0 = 1
                """);
    }

    private static void wouldBe() {
        Sentences.test("would: how many of its pages have something on them now, and the scores of what is left", """
                lowest 4
                write 0 6 4 0 = 0 / delete 0
                # in 1..4: would # 2 1 = # / would # 2 0 = 3
                would 1 2 2 = 1 / would 1 2 3 = 3039
                would 2 2 2 = 1 / would 2 2 3 = 3023
                would 3 2 2 = 1 / would 3 2 3 = 3007
                would 4 2 2 = 0 / would 4 2 3 = 3000
                # in 1..4: would # 0 2 = 0 / would # 1 3 = 3000
                count 5 = 3055
                """);
        Sentences.test("would: the sum of the scores of all guesses then, below 0 or greater than now", """
                write 0 6 12 0 = 0 / delete 0 / wipe 1 = 2
                count 5 = 2959
                would 1 0 3 = 3000 / would 1 0 2 = 0 / would 1 2 3 = 2959 / would 1 2 2 = 1
                would 12 1 1 = 11 / would 12 2 1 = 0
                """);
        Sentences.test("would: a guess goes on at its neighbor then", """
                lowest 4
                write 5 1 1 0 = 0 / write 6 1 1 0 = 1 / write 7 1 1 0 = 2
                delete 6 / write 1 6 2 2 = 3
                delete 5 / delete 7 / write 0 6 2 0 = 0
                delete 0 / delete 1
                count 5 = 3070
                would 2 2 0 = 3 / would 2 2 1 = 2 / would 2 2 2 = 1 / would 2 2 3 = 3029
                write 9 2 2 2 = 3
                guess 0 = 129 2 0 6 0 0 1 0 : 0 1
                """);
    }

    private static void wouldErrors() {
        String errors = """
                # in LEAST -1 0 13 MOST: would # 0 0 = INVALID_ARGUMENT
                # in LEAST -1 3 MOST: would 1 # 0 = INVALID_ARGUMENT
                # in LEAST -1 4 10 MOST: would 1 0 # = INVALID_ARGUMENT
                """;
        Sentences.test("would: INVALID_ARGUMENT if an argument is out of range", errors);
        Sentences.test("would: INVALID_ARGUMENT if an argument is out of range, many guesses", Desks.BUSY + errors);
        Sentences.test("would: INVALID_ARGUMENT if an argument is out of range, a full disk", Desks.FULL + errors);
        Sentences.test("would: LIMIT_REACHED if fewer pages are free", Desks.FULL + """
                # in 0..2: would 1 # 0 = LIMIT_REACHED / would 12 # 3 = LIMIT_REACHED
                # in 0..3: would 1 0 # = LIMIT_REACHED
                delete 3 = 4
                # in 0..3: would 5 1 # = LIMIT_REACHED
                would 4 1 0 = 36
                """);
    }

    private static void gentlest() {
        Sentences.test("gentlest: 0 is", """
                # in 0..3: write # 1 1 0 = #
                write 4 6 2 0 = 4 / write 5 7 2 2 = 39
                write 6 8 12 0 = 6 / write 7 8 12 0 = 18 / write 8 8 8 0 = 30
                delete 0 / delete 2 / wipe 0 = 1 / wipe 2 = 1
                delete 4 / delete 5
                would 2 0 3 = 3070 / would 2 1 3 = 3035 / would 2 2 3 = 3035
                gentlest 2 = 0
                """);
        Sentences.test("gentlest: 1 is", """
                write 0 6 1 0 = 0 / write 1 9 1 0 = 1 / write 2 6 1 2 = 39 / delete 0 / delete 2
                would 2 0 3 = 3025 / would 2 1 3 = 3050 / would 2 2 3 = 3025
                gentlest 2 = 1
                """);
        Sentences.test("gentlest: 2 is", Desks.BUSY + """
                gentlest 1 = 2 / gentlest 12 = 2
                """);
        Sentences.test("gentlest: all sums are below 0", """
                write 0 6 8 0 = 0 / write 1 6 12 2 = 39 / delete 0 / delete 1 / wipe 1 = 2 / wipe 38 = 2
                count 5 = 2942
                would 1 0 3 = 2959 / would 1 1 3 = 2959 / would 1 2 3 = 2983
                gentlest 1 = 2
                """);
        Sentences.test("gentlest: all sums are below 0, and 0 is", """
                write 0 6 12 0 = 0 / write 1 6 8 2 = 39 / delete 0 / delete 1 / wipe 1 = 2 / wipe 38 = 2
                would 1 0 3 = 2983 / would 1 1 3 = 2983 / would 1 2 3 = 2959
                gentlest 1 = 0
                """);
    }

    private static void gentlestOfEqual() {
        Sentences.test("gentlest: of several the lowest one: all are equal", """
                # in 1 12: gentlest # = 0
                write 0 6 1 0 = 0 / write 1 6 1 2 = 39
                delete 0 / delete 1
                would 1 0 3 = 3025 / would 1 1 3 = 3025 / would 1 2 3 = 3025
                gentlest 1 = 0
                """);
        Sentences.test("gentlest: of several the lowest one: 1 and 2 are equal", """
                write 0 6 1 0 = 0 / write 1 9 1 0 = 1 / delete 0
                would 2 0 3 = 3000 / would 2 1 3 = 3025 / would 2 2 3 = 3025
                gentlest 2 = 1
                """);
        Sentences.test("gentlest: of several the lowest one: 0 and 2 are equal", """
                # in 0..3: write # 1 1 0 = #
                write 4 6 2 0 = 4
                delete 0 / delete 2 / wipe 0 = 1 / wipe 2 = 1 / delete 4
                write 8 8 12 2 = 39 / write 9 8 12 2 = 27
                would 2 0 3 = 3035 / would 2 1 3 = 3000 / would 2 2 3 = 3035
                gentlest 2 = 0
                """);
    }

    private static void gentlestErrors() {
        String errors = "# in LEAST -1 0 13 MOST: gentlest # = INVALID_ARGUMENT\n";
        Sentences.test("gentlest: INVALID_ARGUMENT if length is out of range", errors);
        Sentences.test("gentlest: INVALID_ARGUMENT if length is out of range, many guesses", Desks.BUSY + errors);
        Sentences.test("gentlest: INVALID_ARGUMENT if length is out of range, a full disk", Desks.FULL + errors);
        Sentences.test("gentlest: LIMIT_REACHED if fewer pages are free", Desks.FULL + """
                # in 1 12: gentlest # = LIMIT_REACHED
                delete 3 = 4
                # in 5 12: gentlest # = LIMIT_REACHED
                gentlest 4 = 0
                """);
    }

    private static void count() {
        Sentences.test("count: a new disk", """
                counts = 40 0 0 0 0 3000 0 0 0 1 40 0 0
                """);
        Sentences.test("count: a full disk", Desks.FULL + """
                counts = 0 4 0 0 0 3000 4 0 0 0 0 4 0
                """);
        Sentences.test("count: a busy disk", Desks.BUSY + """
                counts = 34 2 14 14 6 3230 16 14 0 2 20 4 60
                """);
        Sentences.test("count: free pages with something on them: further ones without a guess", """
                write 0 6 12 0 = 0 / delete 0 / wipe 0 = 1
                counts = 40 0 11 0 1 3000 1 1 0 1 40 3 0
                """);
        Sentences.test("count: files that were written so far: not those that were claimed", """
                write 0 6 1 0 = 0 / delete 0 / claim 0 -1 / delete 0 / claim 0 -1
                count 6 = 1 / count 7 = 2 / count 8 = 2 / count 1 = 1
                wipeAll / count 6 = 1 / count 7 = 2 / count 8 = 2
                """);
    }

    private static void runs() {
        Sentences.test("count: runs of free pages, the longest of these: page 0 and page 39", """
                write 0 1 1 0 = 0 / write 1 1 12 0 / write 2 1 12 0 / write 3 1 12 0 / write 4 1 2 0 / write 5 1 1 0 = 39
                count 9 = 0 / count 10 = 0
                delete 0
                count 9 = 1 / count 10 = 1
                delete 5
                count 9 = 2 / count 10 = 1
                delete 4
                count 9 = 2 / count 10 = 3
                delete 1
                count 9 = 2 / count 10 = 13
                delete 2
                count 9 = 2 / count 10 = 25
                delete 3
                count 9 = 1 / count 10 = 40
                """);
        Sentences.test("count: runs of free pages: twenty, each of one page", """
                # in 0..29: write # 1 1 0 = #
                # in 1 3 5 7 9 11 13 15 17 19 21 23 25 27 29: delete #
                # in 1 3 5 7 9 11 13 15 17 19: write # 1 1 2
                # in 1 5 9 13 17: delete #
                count 0 = 20 / count 9 = 20 / count 10 = 1
                delete 0
                count 9 = 20 / count 10 = 2
                """);
        Sentences.test("count: the longest of these: the first one, and one between", """
                # in 0..9: write # 1 1 0 = #
                write 10 1 12 0 / write 11 1 12 0 / write 12 1 6 0
                delete 0 / delete 1 / delete 2 / delete 4 / delete 6 / delete 7
                count 9 = 3 / count 10 = 3
                delete 8 / delete 9
                count 9 = 3 / count 10 = 4
                """);
    }

    private static void countErrors() {
        String errors = "# in LEAST -1 13 MOST: count # = INVALID_ARGUMENT\n";
        Sentences.test("count: INVALID_ARGUMENT if what is out of range", errors);
        Sentences.test("count: INVALID_ARGUMENT if what is out of range, a busy disk", Desks.BUSY + errors);
        Sentences.test("count: INVALID_ARGUMENT if what is out of range, a full disk", Desks.FULL + errors);
    }

    private static void undo() {
        Sentences.test("undo: NOT_POSSIBLE if it is empty", """
                undo = NOT_POSSIBLE
                type 32 = 1
                undo = NOT_POSSIBLE
                wipe 0 = 0 / undo = 0
                undo = NOT_POSSIBLE
                """);
        Sentences.test("undo: Returns the number of states that are left in the history", Desks.BUSY + """
                # in 0..3: undo = 3-# / count 11 = 3-#
                undo = NOT_POSSIBLE
                counts = 36 4 11 11 6 3200 15 11 0 2 25 0 60
                """);
        Sentences.test("undo: Restores the latest state of the history", """
                write 0 6 2 0 = 0
                delete 0
                undo = 1 / pages 0 = 0 1 / count 4 = 0
                delete 0 = 40
                undo = 1 / pages 0 = 0 1
                undo = 0 / fileOf 0 0 = NOT_FOUND / page 0 = 1 0 - - - - 0
                write 0 5 1 2 = 39 / count 11 = 1
                """);
    }
}
