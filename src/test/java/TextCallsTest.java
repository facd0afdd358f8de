/** Promises 16 to 19: each argument at its ends and beyond them, each error, and the states at their ends. */
public final class TextCallsTest {
    /** A text of one order that is not possible on a new disk, and one that is ahead of it. */
    private static final String FAULT_AT_3 = "text z0;d0;\n";

    public static void main(String[] args) {
        type();
        typeErrors();
        clearText();
        fault();
        faultErrors();
        play();
        playOfMany();
        playErrors();
        Sentences.end();
    }

    private static void type() {
        Sentences.test("type: Returns the length of the text, the least and the greatest character", """
                type 32 = 1 / type 126 = 2
                count 12 = 2
                # in 32..89: type # = #+-29
                count 12 = 60 / count 11 = 0
                """);
        Sentences.test("type: Appends a character to the text", """
                type 122 = 1
                faulty 0 1
                type 48 = 2
                faulty 0 1
                type 59 = 3
                faultless
                type 59 = 4
                faulty 3 1
                """);
        Sentences.test("type: each character is kept as it is", """
                text z0;~
                faulty 3 1
                clearText = 4
                text z0;
                faultless
                clearText = 3
                # in 119 48 44 49 44 50 59: type #
                play = 1
                pages 0 = 0 1 / fileOf 0 0 = 1
                """);
    }

    private static void typeErrors() {
        String errors = "# in LEAST -1 0 31 127 128 MOST: type # = INVALID_ARGUMENT\n";
        Sentences.test("type: INVALID_ARGUMENT if character is out of range, an empty text", errors);
        Sentences.test("type: INVALID_ARGUMENT if character is out of range, a full text", Desks.BUSY + errors);
        Sentences.test("type: INVALID_ARGUMENT if character is out of range, a text with a fault", FAULT_AT_3 + errors);
        Sentences.test("type: LIMIT_REACHED if it has 60 characters", Desks.BUSY + """
                # in 32 59 122 126: type # = LIMIT_REACHED
                play = 15
                type 32 = LIMIT_REACHED
                clearText = 60
                type 32 = 1
                """);
    }

    private static void clearText() {
        Sentences.test("clearText: Returns the length it had: 0, 1 and 60", """
                clearText = 0 / clearText = 0
                type 32 = 1 / clearText = 1 / clearText = 0
                # in 1..60: type 33 = #
                clearText = 60 / clearText = 0
                count 12 = 0 / count 11 = 0
                faultless
                """);
        Sentences.test("clearText: Empties the text, and nothing else", Desks.BUSY + """
                clearText = 60
                counts = 34 2 14 14 6 3230 16 14 0 2 20 4 0
                play = 0
                """);
        Sentences.test("clearText: nothing of it is left in the next text: its \";\"", """
                text z00;
                clearText = 4
                text z0
                faulty 0 1
                type 48 = 3
                faulty 0 1
                type 59 = 4
                faultless
                """);
        Sentences.test("clearText: nothing of it is left in the next text", """
                text w0,1,1;w1,1,1;
                clearText = 14
                text w2,
                faulty 0 1
                type 49 = 4 / type 44 = 5 / type 49 = 6 / type 59 = 7
                play = 1
                pages 2 = 0 / count 1 = 1
                """);
    }

    private static void fault() {
        Sentences.test("fault: its position; its reason", FAULT_AT_3 + """
                fault 0 = 3 / fault 1 = 3
                text z0;d30;
                fault 0 = 3 / fault 1 = 2
                text z0;d
                fault 0 = 3 / fault 1 = 1
                text d0;
                fault 0 = 0 / fault 1 = 3
                """);
        Sentences.test("fault: NOT_FOUND if the text has no fault (also if it is empty)", """
                fault 0 = NOT_FOUND / fault 1 = NOT_FOUND
                text z0;
                fault 0 = NOT_FOUND / fault 1 = NOT_FOUND
                clearText
                fault 0 = NOT_FOUND / fault 1 = NOT_FOUND
                """);
        Sentences.test("fault: NOT_FOUND if the text has no fault, a full text", Desks.BUSY + """
                fault 0 = NOT_FOUND / fault 1 = NOT_FOUND
                """);
        Sentences.test("fault: the same text on another state", """
                text w0,1,1;
                faultless
                write 0 1 1 0 = 0
                fault 0 = 0 / fault 1 = 3
                delete 0
                faultless
                undo
                fault 0 = 0 / fault 1 = 3
                """);
    }

    private static void faultErrors() {
        String errors = "# in LEAST -1 2 10 MOST: fault # = INVALID_ARGUMENT\n";
        Sentences.test("fault: INVALID_ARGUMENT if what is out of range, an empty text", errors);
        Sentences.test("fault: INVALID_ARGUMENT if what is out of range, a text with a fault", FAULT_AT_3 + errors);
        Sentences.test("fault: INVALID_ARGUMENT if what is out of range, a full text", Desks.BUSY + errors);
    }

    private static void play() {
        Sentences.test("play: Does all orders of the text, which stays.", """
                text w0,3,2;w1,5,2;d0;c0;d1;z02;
                play = 6
                counts = 38 1 1 0 2 3000 2 2 1 1 38 1 27
                pages 0 = 0 1 / fileOf 0 0 = 3
                page 2 = 1 0 - - - - 0 / page 3 = 1 2 5 - - - 0
                entry 0 = 1 2 5 / entry 1 = 0 0 3
                """);
        Sentences.test("play: They are one change, also if there are none.", """
                play = 0
                count 11 = 1
                undo = 0
                text z1;z2;z3;
                play = 3
                count 11 = 1
                undo = 0
                undo = NOT_POSSIBLE
                """);
        Sentences.test("play: Returns how many there are in it: 1", """
                text z39;
                play = 1 / play = 1 / play = 1
                count 11 = 3
                """);
        Sentences.test("play: They are one change, a full history", Desks.BUSY + """
                text w0,1,12;d20;
                play = 2
                count 11 = 4
                undo = 3
                counts = 34 2 14 14 6 3230 16 14 0 2 20 3 12
                undo = 2 / undo = 1 / undo = 0
                undo = NOT_POSSIBLE
                count 1 = 3
                """);
    }

    private static void playOfMany() {
        Sentences.test("play: Returns how many there are in it: 20, the most that a text has", """
                # in 1..20: type 122 / type 48 / type 59
                count 12 = 60
                play = 20
                """);
        Sentences.test("play: a file by each \"w\", the disk is full then", """
                text w0,1,12;w1,2,12;w02,3,12;w3,4,04;
                faultless
                play = 4
                counts = 0 4 0 0 0 3000 4 0 0 0 0 1 33
                # in 0..3: fileOf # 0 = #+1
                faulty 0 3
                """);
        Sentences.test("play: the journal of more than 6 deleted files", """
                # in 0..6: write # # 1 0 = #
                text d0;d1;d2;d3;d4;d5;d6;
                play = 7
                count 4 = 6 / count 7 = 7
                # in 0..5: entry # = 6-# 6-# 6-#
                undo = 3
                count 4 = 0 / count 1 = 7
                """);
    }

    private static void playErrors() {
        Sentences.test("play: NOT_POSSIBLE if it has a fault: its form", """
                text z0
                play = NOT_POSSIBLE
                text w0,1,1;d0;;
                play = NOT_POSSIBLE
                """);
        Sentences.test("play: NOT_POSSIBLE if it has a fault: a number", """
                text w0,1,1;w1,1,13;
                play = NOT_POSSIBLE
                text z0;z40;
                play = NOT_POSSIBLE
                """);
        Sentences.test("play: NOT_POSSIBLE if it has a fault: the state", FAULT_AT_3 + """
                play = NOT_POSSIBLE
                text w0,1,1;d0;c0;d0;z0;d0;
                play = NOT_POSSIBLE
                counts = 40 0 0 0 0 3000 0 0 0 1 40 0 22
                """);
        Sentences.test("play: NOT_POSSIBLE if it has a fault: a full disk, a busy disk", Desks.FULL + """
                text d0;w0,1,12;w4,1,1;
                play = NOT_POSSIBLE
                text d0;w0,1,11;w4,1,1;
                play = 3
                """);
        Sentences.test("play: NOT_POSSIBLE if it has a fault behind many orders", Desks.BUSY + """
                text w0,1,12;c0;c0;d12;z34;d20;d14;x
                faulty 30 1
                counts = 34 2 14 14 6 3230 16 14 0 2 20 4 31
                """);
    }
}
