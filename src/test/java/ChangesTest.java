/** The sentences of the head "Changes and errors", and the one of 512 calls. */
public final class ChangesTest {
    /** The disk, the journal, the text and the history are in use; 2 to 4 states are behind it. */
    private static final String USED = """
            write 0 6 4 0 = 0 / write 1 5 2 2 = 39
            delete 0 / wipe 2 = 2
            text w5,1,1;d1;
            """;

    public static void main(String[] args) {
        changes();
        noChanges();
        questions();
        history();
        whatIsRecorded();
        changesAndUndos();
        texts();
        whichError();
        errorsOfUsedDisk();
        constants();
        manyCalls();
        Sentences.end();
    }

    private static void changes() {
        Sentences.test("The changes are the calls of write, delete, wipe, wipeAll, claim and play that return no error", """
                write 0 1 1 0 = 0 / count 11 = 1
                delete 0 = 40 / count 11 = 2
                claim 0 -1 = 1 / count 11 = 3
                wipe 39 = 0 / count 11 = 4
                undo = 3 / undo = 2 / undo = 1 / undo = 0
                wipe 0 = 0 / count 11 = 1
                wipeAll = 0 / count 11 = 2
                play = 0 / count 11 = 3
                text z1;z2;
                count 11 = 3
                play = 2 / count 11 = 4
                """);
        Sentences.test("The changes: also those after which all is as it was", """
                wipe 0 = 0 / wipe 0 = 0 / count 11 = 2
                undo = 1
                wipeAll = 0 / wipeAll = 0 / count 11 = 3
                undo = 2
                play = 0 / play = 0 / count 11 = 4
                """);
    }

    private static void noChanges() {
        Sentences.test("The changes are the calls of .. that return no error: the others record nothing", """
                write 0 1 1 0 = 0 / count 11 = 1
                write 0 1 1 0 = NOT_POSSIBLE / delete 1 = NOT_POSSIBLE / wipe 0 = NOT_POSSIBLE
                claim 0 1 = NOT_POSSIBLE
                text d1;
                play = NOT_POSSIBLE
                count 11 = 1
                undo = 0
                count 1 = 0
                """);
        Sentences.test("type, clearText, fault and undo are no changes", """
                type 32 = 1 / clearText = 1 / type 33 = 1 / fault 0 = 0
                count 11 = 0 / undo = NOT_POSSIBLE
                wipe 0 = 0 / wipe 1 = 0 / undo = 1 / count 11 = 1
                type 32 = 2 / clearText = 2 / fault 0 = NOT_FOUND
                count 11 = 1
                """);
    }

    private static void questions() {
        Sentences.test("The changes: questions are none", USED + """
                keeps fileOf 1 0 = 5 / keeps fileOf 1 4 = 0 / keeps fileOf 1 11 = 38
                keeps pageOf 0 0 = 1 / keeps pageOf 0 6 = 1 / keeps pageOf 39 5 = 1
                keeps journalOf 0 0 = 0 / keeps journalOf 0 2 = 6
                keeps guessOf 0 0 = 123 / keeps guessOf 0 4 = 0 / keeps guessOf 0 7 = 0 / keeps guessOf 0 11 = 1
                keeps bestGuesses 0 = 1 / keeps bestGuesses 1 = 23
                keeps would 3 0 0 = 0 / keeps would 3 1 1 = 2 / keeps would 3 2 2 = 1 / keeps would 3 2 3 = 3023
                keeps gentlest 1 = 2 / keeps gentlest 12 = 2
                # in 0..12: keeps count #
                keeps fault 0 = NOT_FOUND / keeps fault 1 = NOT_FOUND
                """);
        Sentences.test("The changes: questions about a text with a fault behind orders are none", USED + """
                text w5,1,1;d1;c0;z37;d5;d5;
                keeps fault 0 = 20 / keeps fault 1 = 3
                # in 0..12: keeps count #
                """);
    }

    private static void history() {
        Sentences.test("A history of at most 4 states is kept: none", """
                count 11 = 0
                undo = NOT_POSSIBLE
                counts = 40 0 0 0 0 3000 0 0 0 1 40 0 0
                """);
        Sentences.test("A history of at most 4 states is kept: 4 changes", """
                # in 0..3: write # 1 1 0 = # / count 11 = #+1
                # in 0..3: undo = 3-# / count 1 = 3-# / count 11 = 3-#
                undo = NOT_POSSIBLE
                count 1 = 0
                """);
        Sentences.test("if there are 5 states then, the oldest one is dropped", """
                # in 0..4: write # 1 1 0 = #
                count 11 = 4
                # in 0..3: undo = 3-# / count 1 = 4-#
                undo = NOT_POSSIBLE
                pages 0 = 0 / count 1 = 1
                """);
        Sentences.test("if there are 5 states then, the oldest one is dropped: again and again", """
                # in 0..11: write # 1 1 0 = # / count 1 = #+1
                count 11 = 4
                # in 0..3: undo = 3-# / count 1 = 11-#
                undo = NOT_POSSIBLE
                # in 20..25: write # 1 1 0
                count 11 = 4 / count 1 = 14
                # in 0..3: undo = 3-# / count 1 = 13-#
                undo = NOT_POSSIBLE
                """);
        Sentences.test("A history of at most 4 states is kept: changes between undos", """
                write 0 1 1 0 = 0 / write 1 1 1 0 = 1
                undo = 1
                write 2 1 1 0 = 1 / write 3 1 1 0 = 2 / write 4 1 1 0 = 3 / count 11 = 4
                undo = 3 / pages 3 = 2 / fileOf 4 0 = NOT_FOUND
                write 5 1 1 0 = 3 / write 6 1 1 0 = 4 / count 11 = 4
                undo = 3 / fileOf 6 0 = NOT_FOUND / pages 5 = 3
                undo = 2 / fileOf 5 0 = NOT_FOUND / pages 3 = 2
                undo = 1 / fileOf 3 0 = NOT_FOUND / pages 2 = 1
                undo = 0 / fileOf 2 0 = NOT_FOUND / pages 0 = 0
                undo = NOT_POSSIBLE
                """);
    }

    private static void whatIsRecorded() {
        Sentences.test("each change records everything before it: what is on the pages", """
                write 0 6 3 0 = 0 / delete 0
                write 1 5 2 0 = 0
                undo = 2
                page 0 = 1 1 6 3 1 - 1 / page 1 = 1 2 6 - 2 - 1 / page 2 = 1 2 6 - - - 1
                wipe 0 = 1 / undo = 2
                page 0 = 1 1 6 3 1 - 1
                wipeAll = 3 / undo = 2
                page 0 = 1 1 6 3 1 - 1 / page 2 = 1 2 6 - - - 1
                wipe 2 = 2 / claim 0 7 = 2 / undo = 3
                page 0 = 1 1 6 3 1 - 1 / page 1 = 1 2 6 - 2 - 1 / page 2 = 1 0 - - - - 0
                """);
        Sentences.test("each change records everything before it: the files", """
                write 0 6 3 2 = 39 / delete 0 / undo = 1
                pages 0 = 39 38 37 / fileOf 0 0 = 6 / count 1 = 1
                undo = 0
                fileOf 0 0 = NOT_FOUND / count 1 = 0 / count 0 = 40
                """);
        Sentences.test("each change records everything before it: the journal", """
                # in 0..6: write # # 1 0 = #
                # in 0..5: delete #
                delete 6 / undo = 3
                # in 0..5: entry # = 5-# 5-# 5-#
                wipeAll = 6 / count 4 = 0 / undo = 3
                # in 0..5: entry # = 5-# 5-# 5-#
                undo = 2
                count 4 = 5 / entry 0 = 4 4 4
                """);
        Sentences.test("each change records everything before it: files that were written, deleted and claimed so far", """
                write 0 6 1 0 = 0 / delete 0 / claim 0 -1 = 1
                count 6 = 1 / count 7 = 1 / count 8 = 1
                undo = 2 / count 6 = 1 / count 7 = 1 / count 8 = 0
                undo = 1 / count 6 = 1 / count 7 = 0
                undo = 0 / count 6 = 0
                """);
        Sentences.test("each change records everything before it: play is one change", """
                write 0 6 1 0 = 0
                text w1,1,2;d0;c0;d1;z1;
                play = 5
                counts = 39 1 1 0 2 3000 2 2 1 1 39 2 19
                undo = 1
                counts = 39 1 0 0 0 3000 1 0 0 1 39 1 19
                pages 0 = 0
                page 1 = 1 0 - - - - 0
                """);
    }

    private static void changesAndUndos() {
        Sentences.test("each change records everything before it: a change and its undo, an empty history", """
                undoes write 0 6 3 0 = 0 / undo = 0
                undoes wipe 0 = 0 / undo = 0
                undoes wipeAll = 0 / undo = 0
                undoes play = 0 / undo = 0
                """);
        Sentences.test("each change records everything before it: a change and its undo, each as the next one", """
                undoes write 0 6 3 0 = 0
                undoes delete 0 = 40
                undoes wipe 2 = 2
                undoes claim 0 -1 = 2
                """);
        Sentences.test("each change records everything before it: the others, each as the next one", """
                write 0 6 3 0 = 0
                text d0;z1;
                undoes play = 2
                undoes wipe 2 = 2
                undoes wipeAll = 1
                """);
        Sentences.test("each change records everything before it: a change and its undo, a full history", Desks.BUSY + """
                undoes claim 0 3 = 1 / undoes wipe 9 = 1 / undoes write 0 2 12 2 = 34 / undoes delete 20 = 26
                undoes play = 15 / undoes wipeAll = 17 / undoes wipe 39 = 0 / undoes write 9 9 9 1 = 0
                undoes delete 9 / undoes claim 0 -1 = 9 / undoes wipeAll / undoes play
                """);
        Sentences.test("each change records everything before it: a change and its undo, a full disk", Desks.FULL + """
                undoes wipeAll = 0 / undoes delete 0 = 12 / undoes claim 0 29 = 12 / undoes play = 0
                undoes delete 3 = 4 / undoes wipe 36 = 1 / undoes write 3 2 4 2 = 39
                """);
    }

    private static void texts() {
        Sentences.test("each change records everything before it but the text", """
                text w5,1,1;
                write 0 6 3 0 = 0 / delete 0
                type 90 = 8
                undo = 1 / count 12 = 8
                undo = 0 / count 12 = 8
                faulty 7 1
                counts = 40 0 0 0 0 3000 0 0 0 1 40 0 8
                """);
        Sentences.test("each change records everything before it but the text, also if it was cleared", """
                text z0;
                wipe 0 = 0
                clearText = 3
                undo = 0
                count 12 = 0 / faultless / play = 0
                """);
    }

    private static void whichError() {
        Sentences.test("INVALID_ARGUMENT is returned rather than NOT_POSSIBLE", """
                write 0 1 1 0 = 0
                # in -1 10: write 0 # 1 0 = INVALID_ARGUMENT
                # in 0 13: write 0 1 # 0 = INVALID_ARGUMENT
                # in -1 3: write 0 1 1 # = INVALID_ARGUMENT
                # in -2 30: claim 0 # = INVALID_ARGUMENT
                claim -1 0 = INVALID_ARGUMENT / claim -1 -1 = INVALID_ARGUMENT
                """);
        Sentences.test("NOT_POSSIBLE rather than LIMIT_REACHED", """
                write 0 1 12 0 = 0 / write 1 1 12 0 = 12 / write 2 1 12 0 = 24
                # in 0..2: write # 1 5 # = NOT_POSSIBLE
                # in 0..2: write 3 1 5 # = LIMIT_REACHED
                write 3 1 4 0 = 36
                # in 0..3: write # 1 1 0 = NOT_POSSIBLE
                write 4 1 1 0 = LIMIT_REACHED
                """);
        Sentences.test("INVALID_ARGUMENT rather than LIMIT_REACHED", """
                write 0 1 12 0 = 0 / write 1 1 12 0 = 12 / write 2 1 12 0 = 24 / write 3 1 4 0 = 36
                write 30 1 1 0 = INVALID_ARGUMENT / write 4 10 1 0 = INVALID_ARGUMENT
                write 4 1 13 0 = INVALID_ARGUMENT / write 4 1 1 3 = INVALID_ARGUMENT
                would 13 0 0 = INVALID_ARGUMENT / would 1 3 0 = INVALID_ARGUMENT / would 1 0 4 = INVALID_ARGUMENT
                would 0 0 0 = INVALID_ARGUMENT / would 1 -1 0 = INVALID_ARGUMENT / would 1 0 -1 = INVALID_ARGUMENT
                gentlest 0 = INVALID_ARGUMENT / gentlest 13 = INVALID_ARGUMENT
                # in 1..60: type 32 = #
                type 31 = INVALID_ARGUMENT / type 127 = INVALID_ARGUMENT
                """);
        Sentences.test("INVALID_ARGUMENT rather than NOT_FOUND", """
                fileOf 0 5 = INVALID_ARGUMENT / fileOf 0 22 = INVALID_ARGUMENT / fileOf 30 0 = INVALID_ARGUMENT
                pageOf 40 2 = INVALID_ARGUMENT / pageOf 0 7 = INVALID_ARGUMENT
                journalOf 0 3 = INVALID_ARGUMENT / journalOf -1 0 = INVALID_ARGUMENT
                guessOf 0 8 = INVALID_ARGUMENT / guessOf 0 22 = INVALID_ARGUMENT / guessOf -1 0 = INVALID_ARGUMENT
                fault 2 = INVALID_ARGUMENT / fault -1 = INVALID_ARGUMENT
                """);
    }

    private static void errorsOfUsedDisk() {
        Sentences.test("A call that returns an error changes nothing: changes of files", USED + """
                write 30 1 1 0 = INVALID_ARGUMENT / write 1 1 1 0 = NOT_POSSIBLE / write 1 1 12 2 = NOT_POSSIBLE
                delete 30 = INVALID_ARGUMENT / delete 0 = NOT_POSSIBLE / delete 29 = NOT_POSSIBLE
                wipe 40 = INVALID_ARGUMENT / wipe 39 = NOT_POSSIBLE
                claim 1 0 = NOT_POSSIBLE / claim 0 1 = NOT_POSSIBLE / claim 0 30 = INVALID_ARGUMENT
                """);
        Sentences.test("A call that returns an error changes nothing: play behind orders that are possible", USED + """
                text w5,1,1;d1;z39;x
                play = NOT_POSSIBLE
                text w5,1,1;d1;z39;z40;
                play = NOT_POSSIBLE
                text w5,1,1;d1;z39;d1;
                play = NOT_POSSIBLE
                text c0;d0;d1;c2;
                play = NOT_POSSIBLE
                """);
        Sentences.test("A call that returns an error changes nothing: the history stays full", """
                # in 0..5: write # 1 1 0 = #
                write 0 1 1 0 = NOT_POSSIBLE / wipe 0 = NOT_POSSIBLE / delete 9 = NOT_POSSIBLE / claim 0 9 = NOT_POSSIBLE
                text d0;x
                play = NOT_POSSIBLE
                fault 0 = 3
                # in 0..3: undo = 3-# / count 1 = 5-#
                undo = NOT_POSSIBLE
                """);
        Sentences.test("A call that returns an error changes nothing: the history stays empty", """
                delete 9 = NOT_POSSIBLE / claim 0 9 = NOT_POSSIBLE / wipe 40 = INVALID_ARGUMENT
                text z0;x
                play = NOT_POSSIBLE / fault 0 = 3
                undo = NOT_POSSIBLE
                count 11 = 0
                """);
    }

    private static void constants() {
        Sentences.test("The constants", """
                write 30 0 1 0 = -1000001
                delete 0 = -1000002
                # in 1..60: type 32
                type 32 = -1000003
                fileOf 0 0 = -1000004
                """);
    }

    private static void manyCalls() {
        Sentences.test("An object is used for at most 512 calls: changes to the last one", """
                # in 1..127: write 0 1 12 0 = 0 / count 11 / delete 0 = 40 / count 6 = #
                count 6 = 127 / count 7 = 127 / count 4 = 6
                write 0 1 12 2 = 39
                """);
        Sentences.test("An object is used for at most 512 calls: 170 claims and undos", """
                write 0 1 3 0 = 0 / delete 0 = 40
                # in 1..170: claim 0 -1 = 3 / count 8 = 1 / undo = 2
                """);
    }
}
