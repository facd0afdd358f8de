/** The sentences of the head "Pages and files". */
public final class PagesTest {
    /** Pages 1, 3, 4, 6, 7, 8 and those from 11 on are free. */
    private static final String GAPS = """
            # in 0..10: write # 1 1 0 = #
            # in 1 3 4 6 7 8: delete #
            """;

    /** The odd pages are free, each between two that are not. */
    private static final String ODD = """
            # in 0..29: write # 1 1 0 = #
            # in 1 3 5 7 9 11 13 15 17 19 21 23 25 27 29: delete #
            write 1 1 1 2 = 39 / write 3 1 1 2 = 38 / write 5 1 1 2 = 37 / write 7 1 1 2 = 36 / write 9 1 1 2 = 35
            write 11 1 1 2 = 34 / write 13 1 1 2 = 33 / write 15 1 1 2 = 32 / write 17 1 1 2 = 31
            write 19 1 1 2 = 30
            # in 1 5 9 13 17: delete #
            """;

    public static void main(String[] args) {
        pages();
        contents();
        files();
        overwriting();
        rising();
        sideBySide();
        notSideBySide();
        falling();
        tooFew();
        deleting();
        journal();
        Sentences.end();
    }

    private static void pages() {
        Sentences.test("There are 40 pages, numbered from 0: a new disk", """
                pageOf 0 0 = 1 / pageOf 39 0 = 1
                pageOf -1 0 = INVALID_ARGUMENT / pageOf 40 0 = INVALID_ARGUMENT
                counts = 40 0 0 0 0 3000 0 0 0 1 40 0 0
                """);
        Sentences.test("There are 40 pages, numbered from 0: a full disk", """
                write 0 1 12 0 = 0 / write 1 1 12 0 = 12 / write 2 1 12 0 = 24 / write 3 1 4 0 = 36
                pages 3 = 36 37 38 39
                write 4 1 1 0 = LIMIT_REACHED
                # in 0..39: pageOf # 0 = 0
                counts = 0 4 0 0 0 3000 4 0 0 0 0 4 0
                """);
        Sentences.test("A page belongs to a file, or it is free.", """
                # in 0..39: page # = 1 0 - - - - 0
                write 5 1 1 0 = 0 / write 6 1 1 2 = 39
                page 0 = 0 1 1 1 - 5 0
                page 39 = 0 1 1 1 - 6 0
                # in 1 2 37 38: page # = 1 0 - - - - 0
                """);
    }

    private static void contents() {
        Sentences.test("Something is on a page: nothing (at first)", """
                # in 0..39: pageOf # 1 = 0
                # in 0 39: pageOf # 2 = NOT_FOUND / pageOf # 3 = NOT_FOUND / pageOf # 4 = NOT_FOUND
                count 2 = 0
                wipe 0 = 0 / wipe 39 = 0
                """);
        Sentences.test("a first page (with a style, 0 to 9, and the length of its file)", """
                write 0 0 1 0 = 0 / write 1 9 12 0 = 1
                page 0 = 0 1 0 1 - 0 0
                page 1 = 0 1 9 12 2 1 0
                write 2 -1 1 0 = INVALID_ARGUMENT / write 2 10 1 0 = INVALID_ARGUMENT
                """);
        Sentences.test("or a further page (with a style)", """
                write 0 0 2 0 = 0 / write 1 9 12 0 = 2
                page 1 = 0 2 0 - - 0 0
                page 3 = 0 2 9 - 4 1 0
                page 13 = 0 2 9 - - 1 0
                """);
        Sentences.test("a first or further page also tells which page is the next one of its file, "
                + "or that it is the last one", """
                write 0 1 1 0 = 0 / write 1 1 2 0 = 1 / write 2 1 3 2 = 39
                pageOf 0 4 = NOT_FOUND
                pageOf 1 4 = 2 / pageOf 2 4 = NOT_FOUND
                pageOf 39 4 = 38 / pageOf 38 4 = 37 / pageOf 37 4 = NOT_FOUND
                delete 0 / write 3 1 2 0 = 0
                pageOf 0 4 = 3 / pageOf 3 4 = NOT_FOUND
                """);
        Sentences.test("the next page is page 0", """
                lowest 3
                write 0 1 3 2 = 2
                pageOf 1 4 = 0 / pageOf 0 4 = NOT_FOUND
                delete 0 = 3
                pageOf 1 4 = 0
                guess 0 = 145 3 0 1 0 2 0 0 : 2 1 0
                """);
        Sentences.test("Something is on a page, whether it is free or not", """
                write 4 6 2 0 = 0
                page 0 = 0 1 6 2 1 4 0 / page 1 = 0 2 6 - - 4 0 / count 2 = 0
                delete 4 = 40
                page 0 = 1 1 6 2 1 - 1 / page 1 = 1 2 6 - - - 1 / count 2 = 2
                """);
    }

    private static void files() {
        Sentences.test("A file has a name (0 to 29): all thirty names at once", """
                # in 0..29: write # 1 1 0 = #
                # in -1 30: write # 1 1 0 = INVALID_ARGUMENT
                # in 0..29: fileOf # 2 = #
                # in 0..29: pageOf # 5 = #
                count 1 = 30 / count 0 = 10
                # in 0..29: delete # = #+11
                count 1 = 0 / count 0 = 40
                """);
        Sentences.test("and 1 to 12 pages in a row", """
                write 0 1 0 0 = INVALID_ARGUMENT / write 0 1 13 0 = INVALID_ARGUMENT
                write 0 1 1 0 = 0 / write 1 1 12 0 = 1
                pages 0 = 0
                pages 1 = 1 2 3 4 5 6 7 8 9 10 11 12
                """);
        Sentences.test("No two files have the same name.", """
                write 7 1 2 0 = 0
                write 7 2 1 2 = NOT_POSSIBLE / write 7 1 2 0 = NOT_POSSIBLE
                delete 7 = 40
                write 7 2 1 2 = 39
                claim 0 7 = NOT_POSSIBLE / claim 0 -1 = NOT_POSSIBLE
                text w7,1,1;
                faulty 0 3
                text c0;
                faulty 0 3
                """);
    }

    private static void overwriting() {
        Sentences.test("what is on them is overwritten: first pages by further ones", """
                write 0 3 3 0 = 0 / write 1 3 1 0 = 3 / delete 0 / delete 1
                guesses 2
                write 2 5 5 0 = 0
                page 0 = 0 1 5 5 1 2 0
                page 3 = 0 2 5 - 4 2 0
                delete 2
                guesses 1
                page 3 = 1 2 5 - 4 - 1
                """);
        Sentences.test("what is on them is overwritten: further pages by first ones, which tell no next page", """
                write 0 5 3 0 = 0 / delete 0
                write 1 4 1 0 = 0 / write 2 4 1 0 = 1
                page 0 = 0 1 4 1 - 1 0
                page 1 = 0 1 4 1 - 2 0
                page 2 = 1 2 5 - - - 0
                """);
        Sentences.test("the first one is a first page then, the others are further pages, each tells the next one", """
                write 3 2 4 2 = 39
                page 39 = 0 1 2 4 38 3 0
                page 38 = 0 2 2 - 37 3 0
                page 37 = 0 2 2 - 36 3 0
                page 36 = 0 2 2 - - 3 0
                """);
    }

    private static void rising() {
        Sentences.test("Layout 0: the free pages with the lowest numbers, rising.", GAPS + """
                write 20 2 8 0 = 1
                pages 20 = 1 3 4 6 7 8 11 12
                """);
        Sentences.test("Layout 0: page 0 is the lowest", """
                write 0 1 12 0 = 0
                pages 0 = 0 1 2 3 4 5 6 7 8 9 10 11
                """);
        Sentences.test("Layout 0: page 39 is the last one", """
                highest 2
                write 0 1 2 0 = 38
                pages 0 = 38 39
                """);
    }

    private static void sideBySide() {
        Sentences.test("Layout 1: the lowest free pages that lie one right behind another, as many as it needs", GAPS + """
                write 20 2 1 1 = 1 / pages 20 = 1
                write 21 2 2 1 = 3 / pages 21 = 3 4
                write 22 2 3 1 = 6 / pages 22 = 6 7 8
                write 23 2 12 1 = 11 / pages 23 = 11 12 13 14 15 16 17 18 19 20 21 22
                """);
        Sentences.test("Layout 1: one page too few is passed over", GAPS + """
                write 20 2 4 1 = 11 / pages 20 = 11 12 13 14
                write 21 2 3 1 = 6
                write 22 2 3 1 = 15
                write 23 2 2 1 = 3
                write 24 2 2 1 = 18
                write 25 2 1 1 = 1
                write 26 2 1 1 = 20
                """);
        Sentences.test("Layout 1: more pages than it needs", GAPS + """
                write 20 2 2 1 = 3
                write 21 2 2 1 = 6 / pages 21 = 6 7
                write 22 2 2 1 = 11
                write 23 2 1 1 = 1
                write 24 2 1 1 = 8
                """);
        Sentences.test("Layout 1: from page 0, and up to page 39", """
                write 0 1 12 1 = 0
                pages 0 = 0 1 2 3 4 5 6 7 8 9 10 11
                write 1 1 12 1 = 12 / write 2 1 4 1 = 24
                write 3 1 12 1 = 28
                pages 3 = 28 29 30 31 32 33 34 35 36 37 38 39
                """);
        Sentences.test("Layout 1: nothing lies behind page 39", """
                write 0 1 1 0 = 0 / write 1 1 12 0 = 1 / write 2 1 12 0 = 13 / write 3 1 12 0 = 25 / write 4 1 1 0 = 37
                delete 0
                write 5 1 3 1 = 0 / pages 5 = 0 38 39
                delete 5
                write 6 1 2 1 = 38 / pages 6 = 38 39
                """);
    }

    private static void notSideBySide() {
        Sentences.test("Layout 1: if there are no such ones, as layout 0: one page too few in a row, all that are free", """
                write 0 1 1 0 = 0 / write 1 1 12 0 = 1 / write 2 1 12 0 = 13 / write 3 1 4 0 = 25
                delete 0 = 12
                write 4 1 12 1 = 0
                pages 4 = 0 29 30 31 32 33 34 35 36 37 38 39
                count 0 = 0
                """);
        Sentences.test("Layout 1: if there are no such ones, as layout 0: no two in a row", ODD + """
                count 0 = 20 / count 9 = 20 / count 10 = 1
                would 2 1 0 = 1 / would 12 1 0 = 1
                write 1 2 2 1 = 1 / pages 1 = 1 3
                write 5 2 1 1 = 5 / pages 5 = 5
                write 9 2 12 1 = 7 / pages 9 = 7 9 11 13 15 17 19 21 23 25 27 29
                """);
        Sentences.test("Layout 1: if there are no such ones, as layout 0: single pages with a row of less than it needs", """
                # in 0..9: write # 1 1 0 = #
                write 10 1 12 0 / write 11 1 12 0 / write 12 1 6 0
                # in 0 2 5 6 9: delete #
                write 20 2 3 1 = 0 / pages 20 = 0 2 5
                """);
    }

    private static void falling() {
        Sentences.test("Layout 2: the free pages with the highest numbers, falling.", """
                write 0 1 3 2 = 39 / pages 0 = 39 38 37
                write 1 1 1 2 = 36
                delete 0
                write 2 1 5 2 = 39 / pages 2 = 39 38 37 35 34
                """);
        Sentences.test("Layout 2: over gaps", ODD + """
                write 1 2 12 2 = 39 / pages 1 = 39 37 35 33 31 29 27 25 23 21 19 17
                """);
        Sentences.test("Layout 2: down to page 0", """
                lowest 12
                write 0 1 12 2 = 11
                pages 0 = 11 10 9 8 7 6 5 4 3 2 1 0
                """);
    }

    private static void tooFew() {
        Sentences.test("it gets free pages by a layout: one more than there are", """
                lowest 4
                # in 0..2: write 0 1 5 # = LIMIT_REACHED
                # in 0..2: write 0 1 12 # = LIMIT_REACHED
                """);
        Sentences.test("it gets free pages by a layout: as many as there are", """
                lowest 4
                write 0 1 4 0 = 0 / pages 0 = 0 1 2 3 / delete 0 = 4
                write 1 1 4 1 = 0 / pages 1 = 0 1 2 3 / delete 1 = 4
                write 2 1 4 2 = 3 / pages 2 = 3 2 1 0 / delete 2 = 4
                """);
        Sentences.test("it gets free pages by a layout: none is free", """
                write 0 1 12 0 / write 1 1 12 0 / write 2 1 12 0 / write 3 1 4 2
                # in 0..2: write 4 1 1 # = LIMIT_REACHED
                """);
    }

    private static void deleting() {
        Sentences.test("To delete a file means: its pages are free; what is on them stays.", """
                write 0 3 1 0 = 0 / write 1 4 2 0 = 1 / write 2 5 1 0 = 3
                delete 0 = 37
                write 3 6 2 0 = 0 / pages 3 = 0 4
                delete 3 = 37
                page 0 = 1 1 6 2 4 - 1
                page 4 = 1 2 6 - - - 1
                page 1 = 0 1 4 2 2 1 0
                page 3 = 0 1 5 1 - 2 0
                """);
        Sentences.test("To delete a file of 12 pages of a full disk", """
                write 0 1 12 0 / write 1 1 12 0 / write 2 1 12 0 / write 3 1 4 0
                delete 2 = 12
                # in 24..35: pageOf # 0 = 1
                pageOf 23 0 = 0 / pageOf 36 0 = 0
                guess 0 = 235 12 0 1 2 11 0 0 : 24 25 26 27 28 29 30 31 32 33 34 35
                """);
    }

    private static void journal() {
        Sentences.test("The journal gets an entry: its name, its first page, its style.", """
                journalOf 0 0 = NOT_FOUND / count 4 = 0
                write 29 9 3 2 = 39 / write 0 0 1 0 = 0
                delete 29
                entry 0 = 29 39 9 / journalOf 1 0 = NOT_FOUND / count 4 = 1
                delete 0
                entry 0 = 0 0 0 / entry 1 = 29 39 9 / count 4 = 2
                """);
        Sentences.test("The journal has the latest 6 entries.", """
                # in 0..7: write # # 1 0 = #
                # in 0..4: delete #
                count 4 = 5 / journalOf 5 0 = NOT_FOUND
                delete 5
                count 4 = 6 / journalOf 6 0 = NOT_FOUND
                # in 0..5: entry # = 5-# 5-# 5-#
                delete 6
                count 4 = 6 / journalOf 6 0 = NOT_FOUND
                # in 0..5: entry # = 6-# 6-# 6-#
                delete 7
                # in 0..5: entry # = 7-# 7-# 7-#
                """);
        Sentences.test("The journal has the latest 6 entries, also of one name", """
                # in 0..6: write 3 # 1 0 = 0 / delete 3 = 40
                count 4 = 6
                # in 0..5: entry # = 3 0 6-#
                """);
    }
}
