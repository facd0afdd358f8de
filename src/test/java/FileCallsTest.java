/** Promises 1 to 8: each argument at its ends and beyond them, each error, and the states at their ends. */
public final class FileCallsTest {
    public static void main(String[] args) {
        newObject();
        write();
        writeErrors();
        delete();
        wipe();
        wipeAll();
        fileOf();
        fileOfStraight();
        fileOfErrors();
        pageOf();
        pageOfErrors();
        journalOf();
        Sentences.end();
    }

    private static void newObject() {
        Sentences.test("Creates an empty disk", """
                counts = 40 0 0 0 0 3000 0 0 0 1 40 0 0
                # in 0..39: page # = 1 0 - - - - 0
                # in 0..29: fileOf # 0 = NOT_FOUND
                guesses 0
                undo = NOT_POSSIBLE
                """);
        Sentences.test("with an empty journal", """
                # in 0..2: journalOf 0 # = NOT_FOUND
                count 4 = 0
                """);
    }

    private static void write() {
        Sentences.test("write: the least name, style, length and layout", """
                write 0 0 1 0 = 0
                pages 0 = 0 / fileOf 0 0 = 0
                counts = 39 1 0 0 0 3000 1 0 0 1 39 1 0
                """);
        Sentences.test("write: the greatest name, style, length and layout", """
                write 29 9 12 2 = 39
                pages 29 = 39 38 37 36 35 34 33 32 31 30 29 28 / fileOf 29 0 = 9
                counts = 28 1 0 0 0 3000 1 0 0 1 28 1 0
                """);
        Sentences.test("write: layout 1", """
                write 15 5 6 1 = 0
                pages 15 = 0 1 2 3 4 5 / fileOf 15 0 = 5
                """);
        Sentences.test("write: onto a busy disk", Desks.BUSY + """
                write 0 2 3 0 = 0 / pages 0 = 0 1 2
                count 11 = 4 / count 3 = 11 / count 6 = 17 / count 12 = 60
                """);
        Sentences.test("write: Returns its first page", """
                lowest 5
                # in 0..2: write # 1 1 2 = 4-#
                # in 3 4: write # 1 1 0 = #+-3
                """);
    }

    private static void writeErrors() {
        String errors = """
                # in LEAST -1 30 MOST: write # 0 1 0 = INVALID_ARGUMENT
                # in LEAST -1 10 MOST: write 5 # 1 0 = INVALID_ARGUMENT
                # in LEAST -1 0 13 MOST: write 5 0 # 0 = INVALID_ARGUMENT
                # in LEAST -1 3 MOST: write 5 0 1 # = INVALID_ARGUMENT
                """;
        Sentences.test("write: INVALID_ARGUMENT if an argument is out of range", errors);
        Sentences.test("write: INVALID_ARGUMENT if an argument is out of range, a busy disk", Desks.BUSY + errors);
        Sentences.test("write: INVALID_ARGUMENT if an argument is out of range, a full disk", Desks.FULL + errors);
        Sentences.test("write: NOT_POSSIBLE if there is a file with this name", Desks.BUSY + """
                # in 0..2: write 14 1 1 # = NOT_POSSIBLE
                write 20 6 5 2 = NOT_POSSIBLE
                write 13 1 1 0 = 0
                write 13 1 1 0 = NOT_POSSIBLE
                """);
        Sentences.test("write: LIMIT_REACHED if fewer pages are free", Desks.FULL + """
                # in 1..12: write 4 0 # 0 = LIMIT_REACHED
                # in 1 2: write 29 9 1 # = LIMIT_REACHED
                delete 3 = 4
                # in 5..12: write 4 0 # 1 = LIMIT_REACHED
                write 4 0 4 1 = 36
                """);
    }

    private static void delete() {
        Sentences.test("delete: the least and the greatest name", """
                write 0 1 1 0 = 0 / write 29 2 2 0 = 1
                delete 0 = 38
                entry 0 = 0 0 1 / fileOf 0 0 = NOT_FOUND
                delete 29 = 40
                entry 0 = 29 1 2 / count 1 = 0 / count 7 = 2
                """);
        Sentences.test("delete: Returns how many pages are free then, 1 at least", """
                write 0 1 12 0 / write 1 1 12 0 / write 2 1 12 0 / write 3 1 3 0 / write 4 1 1 0 = 39
                delete 4 = 1
                delete 3 = 4 / delete 2 = 16 / delete 0 = 28 / delete 1 = 40
                """);
        Sentences.test("delete: a busy disk", Desks.BUSY + """
                delete 20 = 39
                entry 0 = 20 39 6 / entry 5 = 9 9 1 / count 4 = 6 / count 11 = 4
                guess 0 = 165 5 0 6 20 4 0 0 : 39 38 37 36 35
                delete 14 = 40
                """);
        String errors = "# in LEAST -1 30 MOST: delete # = INVALID_ARGUMENT\n";
        Sentences.test("delete: INVALID_ARGUMENT if name is out of range", errors);
        Sentences.test("delete: INVALID_ARGUMENT if name is out of range, a busy disk", Desks.BUSY + errors);
        Sentences.test("delete: INVALID_ARGUMENT if name is out of range, a full disk", Desks.FULL + errors);
        Sentences.test("delete: NOT_POSSIBLE if there is no such file", """
                # in 0 29: delete # = NOT_POSSIBLE
                write 0 1 1 0 = 0
                delete 29 = NOT_POSSIBLE
                delete 0 = 40
                delete 0 = NOT_POSSIBLE
                """);
        Sentences.test("delete: NOT_POSSIBLE if there is no such file, a busy disk", Desks.BUSY + """
                # in 0 13 15 19 21 29: delete # = NOT_POSSIBLE
                """);
    }

    private static void wipe() {
        Sentences.test("wipe: Returns 0 if nothing was on it, 1 a first page, 2 a further page", """
                wipe 0 = 0 / wipe 39 = 0
                write 0 1 2 0 = 0 / write 1 1 2 2 = 39 / delete 0 / delete 1
                wipe 0 = 1 / wipe 39 = 1 / wipe 1 = 2 / wipe 38 = 2
                # in 0 1 38 39: page # = 1 0 - - - - 0 / wipe # = 0
                """);
        Sentences.test("wipe: a free page alone", """
                write 0 6 4 0 = 0 / delete 0
                wipe 1 = 2
                page 0 = 1 1 6 4 1 - 1 / page 1 = 1 0 - - - - 0 / page 2 = 1 2 6 - 3 - 0 / page 3 = 1 2 6 - - - 0
                entry 0 = 0 0 6 / count 2 = 3 / count 0 = 40
                """);
        Sentences.test("wipe: what is written there then is as on a new page", """
                write 0 6 4 0 = 0 / delete 0 / wipe 0 = 1 / wipe 1 = 2
                write 1 2 2 0 = 0
                page 0 = 0 1 2 2 1 1 0 / page 1 = 0 2 2 - - 1 0
                """);
        String errors = "# in LEAST -1 40 MOST: wipe # = INVALID_ARGUMENT\n";
        Sentences.test("wipe: INVALID_ARGUMENT if page is out of range", errors);
        Sentences.test("wipe: INVALID_ARGUMENT if page is out of range, a busy disk", Desks.BUSY + errors);
        Sentences.test("wipe: NOT_POSSIBLE if it is not free", Desks.FULL + """
                # in 0 11 12 39: wipe # = NOT_POSSIBLE
                """);
        Sentences.test("wipe: NOT_POSSIBLE if it is not free, a busy disk", Desks.BUSY + """
                # in 14 35 39: wipe # = NOT_POSSIBLE
                # in 13 15 34: wipe #
                """);
    }

    private static void wipeAll() {
        Sentences.test("wipeAll: Returns on how many of them there was something: none", """
                wipeAll = 0
                counts = 40 0 0 0 0 3000 0 0 0 1 40 1 0
                """);
        Sentences.test("wipeAll: Returns on how many of them there was something: all", Desks.FULL + """
                delete 0 / delete 1 / delete 2 / delete 3
                count 2 = 40
                wipeAll = 40
                counts = 40 0 0 0 0 3000 4 4 0 1 40 4 0
                # in 0 39: page # = 1 0 - - - - 0
                """);
        Sentences.test("wipeAll: Wipes all free pages", Desks.BUSY + """
                wipeAll = 14
                counts = 34 2 0 0 0 3000 16 14 0 2 20 4 60
                page 14 = 0 1 1 1 - 14 0 / page 39 = 0 1 6 5 38 20 0 / page 35 = 0 2 6 - - 20 0
                undo = 3
                counts = 34 2 14 14 6 3230 16 14 0 2 20 3 60
                """);
        Sentences.test("wipeAll: and empties the journal, also if no page is free", """
                write 0 1 12 0 / delete 0
                """ + Desks.FULL + """
                count 4 = 1
                wipeAll = 0
                count 4 = 0 / journalOf 0 0 = NOT_FOUND / count 1 = 4
                undo = 3 / count 4 = 1
                """);
        Sentences.test("wipeAll: and empties the journal, also if it is full", Desks.BUSY + """
                count 4 = 6
                wipeAll = 14
                # in 0 1 5: journalOf # 0 = NOT_FOUND
                delete 20
                entry 0 = 20 39 6 / journalOf 1 0 = NOT_FOUND / count 4 = 1
                """);
    }

    private static void fileOf() {
        Sentences.test("fileOf: a file of 1 page", """
                write 0 0 1 0 = 0
                fileOf 0 0 = 0 / fileOf 0 1 = 1 / fileOf 0 2 = 0 / fileOf 0 3 = 0 / fileOf 0 4 = 1 / fileOf 0 10 = 0
                # in 11 12 21: fileOf 0 # = NOT_FOUND
                """);
        Sentences.test("fileOf: a file of 12 pages", """
                write 29 9 12 2 = 39
                fileOf 29 0 = 9 / fileOf 29 1 = 12 / fileOf 29 2 = 39 / fileOf 29 3 = 28 / fileOf 29 4 = 0
                # in 10..21: fileOf 29 # = 49-#
                """);
        Sentences.test("fileOf: a file of 11 pages", """
                write 1 3 11 0 = 0
                fileOf 1 20 = 10 / fileOf 1 21 = NOT_FOUND / fileOf 1 3 = 10 / fileOf 1 1 = 11
                """);
        Sentences.test("fileOf: a claimed file has the pages of the guess alone", """
                write 0 6 12 0 = 0 / delete 0 / wipe 2 = 2
                claim 0 1 = 2
                fileOf 1 0 = 6 / fileOf 1 1 = 2 / fileOf 1 2 = 0 / fileOf 1 3 = 1 / fileOf 1 4 = 1
                fileOf 1 11 = 1 / fileOf 1 12 = NOT_FOUND
                """);
    }

    private static void fileOfStraight() {
        Sentences.test("fileOf: 1 if its pages lie one right behind another, rising, otherwise 0", """
                lowest 8
                write 1 1 2 0 = 0 / fileOf 1 4 = 1
                write 2 1 2 2 = 7 / fileOf 2 4 = 0
                write 3 1 1 2 = 5 / fileOf 3 4 = 1
                write 4 1 3 1 = 2 / fileOf 4 4 = 1
                """);
        Sentences.test("fileOf: otherwise 0, a gap ahead of the last page, or behind the first one", """
                # in 0..4: write # 1 1 0 = #
                delete 0 / delete 2 / delete 3
                write 5 1 3 0 = 0 / pages 5 = 0 2 3 / fileOf 5 4 = 0
                delete 5 / delete 1
                write 6 1 5 0 = 0 / pages 6 = 0 1 2 3 5 / fileOf 6 4 = 0
                """);
        Sentences.test("fileOf: otherwise 0, the last one of 12 pages", """
                write 0 1 11 0 = 0 / write 1 1 1 0 = 11 / delete 0
                write 2 1 12 0 = 0 / fileOf 2 21 = 12 / fileOf 2 4 = 0
                write 3 1 12 0 = 13 / fileOf 3 4 = 1
                """);
        Sentences.test("fileOf: otherwise 0, rising and then falling", """
                lowest 4
                write 1 6 2 2 = 3 / write 2 6 1 0 = 0 / delete 1 / delete 2
                write 3 6 2 0 = 0 / pages 3 = 0 1 / delete 3
                write 4 6 3 2 = 3 / pages 4 = 3 2 1 / fileOf 4 4 = 0
                """);
    }

    private static void fileOfErrors() {
        String errors = """
                # in LEAST -1 30 MOST: fileOf # 0 = INVALID_ARGUMENT / fileOf # 10 = INVALID_ARGUMENT
                # in LEAST -1 5 6 7 8 9 22 23 MOST: fileOf 3 # = INVALID_ARGUMENT
                """;
        Sentences.test("fileOf: INVALID_ARGUMENT if name is out of range, or what is none of these", errors);
        Sentences.test("fileOf: INVALID_ARGUMENT .. what is none of these, of a file", Desks.FULL + errors);
        Sentences.test("fileOf: INVALID_ARGUMENT .. what is none of these, of a busy disk", Desks.BUSY + errors);
        Sentences.test("fileOf: NOT_FOUND if there is no such file", """
                # in 0 29: fileOf # 0 = NOT_FOUND / fileOf # 4 = NOT_FOUND / fileOf # 10 = NOT_FOUND / fileOf # 21 = NOT_FOUND
                write 1 1 1 0 = 0
                fileOf 0 0 = NOT_FOUND / fileOf 2 0 = NOT_FOUND
                delete 1
                fileOf 1 0 = NOT_FOUND / fileOf 1 10 = NOT_FOUND
                """);
        Sentences.test("fileOf: NOT_FOUND if it has not so many pages", Desks.BUSY + """
                fileOf 20 14 = 35 / fileOf 20 15 = NOT_FOUND / fileOf 20 21 = NOT_FOUND
                fileOf 14 10 = 14 / fileOf 14 11 = NOT_FOUND
                """);
    }

    private static void pageOf() {
        Sentences.test("pageOf: the least and the greatest page", """
                page 0 = 1 0 - - - - 0 / page 39 = 1 0 - - - - 0
                write 0 0 1 0 = 0 / write 29 9 12 2 = 39
                page 0 = 0 1 0 1 - 0 0 / page 39 = 0 1 9 12 38 29 0
                delete 0 / delete 29
                page 0 = 1 1 0 1 - - 1 / page 39 = 1 1 9 12 38 - 1 / page 28 = 1 2 9 - - - 1
                """);
        Sentences.test("pageOf: how many guesses have it", Desks.CROSSING + """
                guesses 3
                pageOf 0 6 = 1 / pageOf 1 6 = 1 / pageOf 2 6 = 2 / pageOf 3 6 = 1 / pageOf 4 6 = 3
                pageOf 5 6 = 0 / pageOf 6 6 = 0 / pageOf 39 6 = 0
                claim 0 -1 = 3
                # in 0 2 4 5: pageOf # 6 = 0
                # in 1 3: pageOf # 6 = 1
                """);
        Sentences.test("pageOf: of a busy disk", Desks.BUSY + """
                page 0 = 1 1 1 1 - - 1 / page 13 = 1 1 1 1 - - 1 / page 14 = 0 1 1 1 - 14 0 / page 15 = 1 0 - - - - 0
                page 34 = 1 0 - - - - 0 / page 35 = 0 2 6 - - 20 0 / page 39 = 0 1 6 5 38 20 0
                """);
    }

    private static void pageOfErrors() {
        String errors = """
                # in LEAST -1 40 MOST: pageOf # 0 = INVALID_ARGUMENT / pageOf # 6 = INVALID_ARGUMENT
                # in LEAST -1 7 10 MOST: pageOf 0 # = INVALID_ARGUMENT
                """;
        Sentences.test("pageOf: INVALID_ARGUMENT if an argument is out of range", errors);
        Sentences.test("pageOf: INVALID_ARGUMENT if an argument is out of range, a busy disk", Desks.BUSY + errors);
        Sentences.test("pageOf: INVALID_ARGUMENT if an argument is out of range, a full disk", Desks.FULL + errors);
        Sentences.test("pageOf: NOT_FOUND for 2 to 5 if there is no such thing", """
                # in 2..5: pageOf 0 # = NOT_FOUND
                write 0 1 2 0 = 0
                pageOf 1 3 = NOT_FOUND / pageOf 1 4 = NOT_FOUND
                # in 2..5: pageOf 2 # = NOT_FOUND
                delete 0
                pageOf 0 5 = NOT_FOUND / pageOf 1 5 = NOT_FOUND
                wipe 1
                # in 2..5: pageOf 1 # = NOT_FOUND
                pageOf 0 4 = 1
                """);
    }

    private static void journalOf() {
        Sentences.test("journalOf: 0 for the latest one, and so on", """
                write 0 0 1 0 = 0 / write 29 9 1 2 = 39
                delete 29
                entry 0 = 29 39 9
                delete 0
                entry 0 = 0 0 0 / entry 1 = 29 39 9
                """);
        String errors = """
                # in LEAST -1: journalOf # 0 = INVALID_ARGUMENT
                # in LEAST -1 3 10 MOST: journalOf 0 # = INVALID_ARGUMENT / journalOf 6 # = INVALID_ARGUMENT
                # in 0..2: journalOf 6 # = NOT_FOUND / journalOf MOST # = NOT_FOUND
                """;
        Sentences.test("journalOf: its errors, the journal is empty", errors + """
                # in 0 1 5: journalOf # 0 = NOT_FOUND
                """);
        Sentences.test("journalOf: its errors, the journal is full", Desks.BUSY + errors + """
                # in 0..5: entry # = 13-# 13-# 1
                """);
        Sentences.test("journalOf: NOT_FOUND if there are not so many", """
                write 7 7 1 0 = 0 / delete 7
                entry 0 = 7 0 7
                # in 0..2: journalOf 1 # = NOT_FOUND
                wipeAll = 1
                # in 0..2: journalOf 0 # = NOT_FOUND
                """);
    }
}
