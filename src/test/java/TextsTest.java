/** The sentences of the head "Texts". */
public final class TextsTest {
    public static void main(String[] args) {
        sixtyCharacters();
        forms();
        digits();
        semicolons();
        ranges();
        notPossible();
        reasons();
        possibleBecauseOfOneAhead();
        claimsBecauseOfOneAhead();
        notPossibleBecauseOfOneAhead();
        claimsNotBecauseOfOneAhead();
        orders();
        Sentences.end();
    }

    /** Lines that ask for the same fault at 0 of each text. */
    private static String faulty(int reason, String... texts) {
        StringBuilder lines = new StringBuilder();
        for (String text : texts) {
            lines.append("text ").append(text).append("\nfaulty 0 ").append(reason).append('\n');
        }
        return lines.toString();
    }

    private static String faultless(String... texts) {
        StringBuilder lines = new StringBuilder();
        for (String text : texts) {
            lines.append("text ").append(text).append("\nfaultless\n");
        }
        return lines.toString();
    }

    private static void sixtyCharacters() {
        Sentences.test("There is a text of at most 60 characters, initially empty", """
                count 12 = 0
                faultless
                clearText = 0
                # in 1..60: type 32 = #
                count 12 = 60
                # in 32 59 126: type # = LIMIT_REACHED
                """);
        Sentences.test("There is a text of at most 60 characters: all of them are orders",
                "text " + "z1;".repeat(20) + """

                count 12 = 60
                faultless
                play = 20
                type 59 = LIMIT_REACHED
                count 12 = 60
                """);
        Sentences.test("There is a text of at most 60 characters: the last one is its \";\"",
                "text " + "z1;".repeat(19) + "z1" + """

                faulty 57 1
                type 59 = 60
                faultless
                play = 20
                """);
        Sentences.test("There is a text of at most 60 characters: no room for its \";\"",
                "text " + "z1;".repeat(19) + "z11" + """

                type 59 = LIMIT_REACHED
                faulty 57 1
                """);
        Sentences.test("There is a text of at most 60 characters: the fault is the last one",
                "text " + "z1;".repeat(17) + "z11;z11;x" + """

                count 12 = 60
                faulty 59 1
                """);
        Sentences.test("There is a text of at most 60 characters: the last order is not possible",
                "text " + "z1;".repeat(19) + "d0;" + """

                count 12 = 60
                faulty 57 3
                """);
    }

    private static void forms() {
        Sentences.test("its reason is 1 if it is not of this form: \"w\" a name, \",\", a style, \",\", a length",
                faulty(1, "w", "w;", "w,", "w1", "w1;", "w1,", "w1,;", "w1,2", "w1,2;", "w1,2,", "w1,2,;", "w1,2,3",
                        "w1,2,3,", "w1,2,3,4;", "w,2,3;", "w1,,3;", "w1;2;3;", "w1 2 3;", "w1.2.3;", "w1,2.3;"));
        Sentences.test("its reason is 1 if it is not of this form: other characters in \"w\"",
                faulty(1, "W1,2,3;", "ww1,2,3;", " w1,2,3;", "w 1,2,3;", "w1 ,2,3;", "w1, 2,3;", "w1,2 ,3;", "w1,2, 3;",
                        "w1,2,3 ;", "w-1,2,3;", "w+1,2,3;", "w1,-2,3;", "w1,2,-3;", "wa,2,3;", "w1,a,3;", "w1,2,a;"));
        Sentences.test("its reason is 1 if it is not of this form: \"d\" a name",
                faulty(1, "d", "d;", "d1", "d1,", "d1,;", "d1,2;", "D1;", "dd1;", " d1;", "d 1;", "d1 ;", "d-1;", "d+1;",
                        "da;", "d/;", "d:;", "d1/;", "d1:;"));
        Sentences.test("its reason is 1 if it is not of this form: \"c\" a number",
                faulty(1, "c", "c;", "c0", "c0,", "c0,1;", "C0;", "cc0;", " c0;", "c 0;", "c0 ;", "c-1;", "ca;", "c0a;"));
        Sentences.test("its reason is 1 if it is not of this form: \"z\" a page",
                faulty(1, "z", "z;", "z0", "z0,", "z0,1;", "Z0;", "zz0;", " z0;", "z 0;", "z0 ;", "z-1;", "za;", "z0a;"));
        Sentences.test("its reason is 1 if it is not of this form: no order at all",
                faulty(1, ";", ";;", ",", "0", "0;", "1;", "x", "x;", "x0;", "v0;", "e0;", "b0;", "y0;", "{0;", "~", "!")
                + """
                clearText / type 32 = 1
                faulty 0 1
                text z0;
                type 32 = 4
                faulty 3 1
                """);
    }

    private static void digits() {
        Sentences.test("numbers of 1 or 2 digits: 3 digits", faulty(1, "w001,2,3;", "w1,002,3;", "w1,2,003;", "w100,2,3;",
                "w1,100,3;", "w1,2,100;", "d000;", "d001;", "d100;", "c000;", "c100;", "z000;", "z039;", "z400;", "z0000;"));
        Sentences.test("0 ahead allowed: each number has 1 digit, or 2", """
                text w0,0,1;w01,01,01;d00;d1;c00;z2;z03;
                faultless
                play = 7
                count 1 = 1 / count 8 = 1
                pages 0 = 0
                """);
        Sentences.test("0 ahead allowed: the least and the greatest numbers",
                faultless("w0,0,1;", "w00,00,01;", "w29,9,12;", "w29,09,12;", "z0;", "z00;", "z39;", "z9;", "z09;"));
    }

    private static void semicolons() {
        Sentences.test("orders, each followed by \";\": one is missing at the end", """
                text z0;z1
                faulty 3 1
                type 59 = 6
                faultless
                text w0,1,1;d0
                faulty 7 1
                """);
        Sentences.test("orders, each followed by \";\": one is missing between", """
                text z0z1;
                faulty 0 1
                text z0;z1z2;z3;
                faulty 3 1
                text w0,1,1d0;
                faulty 0 1
                """);
        Sentences.test("orders, each followed by \";\": one too many", """
                text ;z0;
                faulty 0 1
                text z0;;
                faulty 3 1
                text z0;;z1;
                faulty 3 1
                """);
    }

    private static void ranges() {
        Sentences.test("2 if a number is out of its range: a name above 29", faulty(2, "w30,0,1;", "w99,0,1;", "d30;", "d99;")
                + faultless("w29,0,1;", "w29,0,1;d29;"));
        Sentences.test("2 if a number is out of its range: a style above 9", faulty(2, "w0,10,1;", "w0,99,1;")
                + faultless("w0,9,1;"));
        Sentences.test("2 if a number is out of its range: a length not 1 to 12",
                faulty(2, "w0,0,0;", "w0,0,00;", "w0,0,13;", "w0,0,99;") + faultless("w0,0,1;", "w0,0,12;"));
        Sentences.test("2 if a number is out of its range: a page above 39", faulty(2, "z40;", "z99;") + faultless("z39;"));
        Sentences.test("2 if a number is out of its range: that of a guess has none", faulty(3, "c0;", "c00;", "c39;", "c40;",
                "c99;"));
    }

    private static void notPossible() {
        Sentences.test("3 if it is not possible otherwise: \"w\", there is a file with this name", """
                write 0 1 1 0 = 0
                text w0,1,1;
                faulty 0 3
                text w1,1,1;
                faultless
                """);
        Sentences.test("3 if it is not possible otherwise: \"w\", fewer pages are free", """
                lowest 3
                text w0,1,4;
                faulty 0 3
                text w0,1,3;
                faultless
                """);
        Sentences.test("3 if it is not possible otherwise: \"w\", none is free", """
                write 0 1 12 0 / write 1 1 12 0 / write 2 1 12 0 / write 3 1 4 0
                text w4,1,1;
                faulty 0 3
                """);
        Sentences.test("3 if it is not possible otherwise: \"d\", there is no such file", """
                write 1 1 1 0 = 0
                text d0;
                faulty 0 3
                text d29;
                faulty 0 3
                text d1;
                faultless
                """);
        Sentences.test("3 if it is not possible otherwise: \"z\", the page is not free", """
                write 0 1 2 0 = 0
                text z0;
                faulty 0 3
                text z1;
                faulty 0 3
                text z2;
                faultless
                """);
        Sentences.test("3 if it is not possible otherwise: \"c\", there are not so many guesses", """
                write 0 1 1 0 = 0 / write 1 1 1 0 = 1 / delete 0 / delete 1
                text c2;
                faulty 0 3
                text c1;
                faultless
                """);
        Sentences.test("3 if it is not possible otherwise: \"c\", it has no name", """
                write 0 6 1 0 = 0 / delete 0
                # in 1..6: write # 7 1 2 = 39 / delete #
                guessOf 1 4 = NOT_FOUND
                text c1;
                faulty 0 3
                text c0;
                faultless
                """);
        Sentences.test("3 if it is not possible otherwise: \"c\", there is a file with its name", """
                write 0 6 2 0 = 0 / delete 0 / write 0 7 1 2 = 39
                text c0;
                faulty 0 3
                """);
    }

    private static void reasons() {
        Sentences.test("its reason is 1, 2, and 3 otherwise: several of them in one order", """
                write 0 1 1 0 = 0
                text w30,10,13
                faulty 0 1
                text w0,10,1
                faulty 0 1
                text w0,10,1;
                faulty 0 2
                text w0,1,13;
                faulty 0 2
                text d30
                faulty 0 1
                text z40
                faulty 0 1
                text d5
                faulty 0 1
                text z0
                faulty 0 1
                text c5
                faulty 0 1
                """);
        Sentences.test("the first character of the first order that is not possible: others are behind it", """
                text d0;z40;x
                faulty 0 3
                text z40;d0;x
                faulty 0 2
                text x;z40;d0;
                faulty 0 1
                text z0;d0;z40;
                faulty 3 3
                text z0;z40;d0;
                faulty 3 2
                text z39;w00,01,02;z2;x
                faulty 17 1
                text w0,1,12;w29,9,12;d0;z0;d1;
                faulty 23 3
                """);
    }

    private static void possibleBecauseOfOneAhead() {
        Sentences.test("when those ahead of it are done: possible only then, behind \"w\"", """
                text w0,1,1;d0;
                faultless
                play = 2
                count 1 = 0 / count 4 = 1
                """);
        Sentences.test("when those ahead of it are done: possible only then, behind \"d\"", """
                write 0 1 12 0 / write 1 1 12 0 / write 2 1 12 0 / write 3 1 4 0
                text w4,1,1;
                faulty 0 3
                text w0,1,1;
                faulty 0 3
                text z0;
                faulty 0 3
                text c0;
                faulty 0 3
                """ + faultless("d0;w4,1,1;", "d0;w4,1,12;", "d0;w0,2,12;", "d0;z0;", "d0;z11;", "d0;c0;"));
        Sentences.test("when those ahead of it are done: possible only then, behind \"c\"", """
                write 0 6 1 0 = 0 / delete 0
                text d0;
                faulty 0 3
                text c0;d0;
                faultless
                text c0;d0;c0;d0;
                faultless
                play = 4
                entry 0 = 0 0 6 / entry 2 = 0 0 6 / count 4 = 3 / count 8 = 2
                """);
        Sentences.test("when those ahead of it are done: possible only then, behind \"z\"", """
                write 0 6 2 0 = 0 / delete 0 / write 0 7 1 2 = 39
                write 1 5 1 0 = 0 / delete 1 / write 2 6 2 0 = 0 / delete 2 / write 2 7 1 2 = 38
                write 3 5 1 2 = 37 / delete 3
                guess 0 = 135 2 0 6 2 1 0 0 : 0 1
                guess 1 = 125 1 0 5 3 0 0 0 : 37
                text c0;
                faulty 0 3
                text z0;c0;
                faultless
                play = 2
                pages 3 = 37
                """);
    }

    private static void claimsBecauseOfOneAhead() {
        Sentences.test("when those ahead of it are done: its name has no file any more", """
                write 0 6 2 0 = 0 / delete 0 / write 0 7 1 2 = 39
                text c0;
                faulty 0 3
                text d0;c0;
                faultless
                play = 2
                pages 0 = 0 1
                """);
        Sentences.test("when those ahead of it are done: it has a name then", """
                write 0 6 1 0 = 0 / delete 0
                # in 1..6: write # 7 1 2 = 39 / delete #
                write 9 6 1 2 = 39
                guess 0 = 110 1 0 6 - 0 0 0 : 0
                text c0;
                faulty 0 3
                text d9;c1;
                faultless
                text d9;c0;c1;
                faulty 6 3
                text d9;c0;c0;
                faulty 6 3
                text d9;c1;c0;
                faulty 6 3
                text d9;c1;
                play = 2
                pages 9 = 0
                """);
    }

    private static void notPossibleBecauseOfOneAhead() {
        Sentences.test("when those ahead of it are done: no more possible then, behind \"w\"", """
                write 0 6 2 0 = 0 / delete 0
                text w0,1,1;w0,1,1;
                faulty 7 3
                text w5,1,1;z0;
                faulty 7 3
                text w5,1,1;c0;
                faulty 7 3
                text w1,1,12;w2,1,12;w3,1,12;w4,1,5;
                faulty 24 3
                text w1,1,12;w2,1,12;w3,1,12;w4,1,4;
                faultless
                """);
        Sentences.test("when those ahead of it are done: no more possible then, behind \"d\" and \"z\"", """
                write 0 6 2 0 = 0
                text d0;d0;
                faulty 3 3
                text d0;z0;c0;
                faulty 6 3
                text d0;z1;c0;
                faultless
                """);
        Sentences.test("when those ahead of it are done: no more possible then, behind \"c\"", """
                write 0 6 2 0 = 0 / delete 0
                text c0;c0;
                faulty 3 3
                text c0;z0;
                faulty 3 3
                text c0;z1;
                faulty 3 3
                text c0;w0,1,1;
                faulty 3 3
                text c0;w1,1,12;w2,1,12;w3,1,12;w4,1,3;
                faulty 27 3
                text c0;w1,1,12;w2,1,12;w3,1,12;w4,1,2;
                faultless
                """);
    }

    private static void claimsNotBecauseOfOneAhead() {
        Sentences.test("when those ahead of it are done: its name has a file then", """
                write 0 6 2 2 = 39 / delete 0
                text c0;
                faultless
                text w0,1,1;c0;
                faulty 7 3
                """);
        Sentences.test("when those ahead of it are done: its entry is not among the latest 6 then", """
                write 0 6 1 0 = 0 / delete 0
                # in 1..6: write # 7 1 2 = 40-#
                text d1;d2;d3;d4;d5;c0;
                faultless
                text d1;d2;d3;d4;d5;d6;c6;
                faulty 18 3
                text d1;d2;d3;d4;d5;d6;c5;
                faultless
                """);
    }

    private static void orders() {
        Sentences.test("a file is written by layout 0", """
                # in 0..3: write # 1 1 0 = #
                delete 1 / delete 3
                text w9,2,3;
                faultless
                play = 1
                pages 9 = 1 3 4 / fileOf 9 0 = 2
                """);
        Sentences.test("it is deleted", """
                write 29 9 2 2 = 39
                text d29;
                play = 1
                entry 0 = 29 39 9 / count 7 = 1 / count 0 = 40
                """);
        Sentences.test("the guess with this number is claimed under its name", """
                write 3 6 1 0 = 0 / write 4 6 2 0 = 1 / delete 3 / delete 4
                text c1;
                play = 1
                pages 3 = 0 / count 8 = 1 / count 1 = 1
                text c0;
                play = 1
                pages 4 = 1 2 / count 8 = 2
                """);
        Sentences.test("a page (it is wiped)", """
                write 3 6 2 0 = 0 / delete 3
                text z0;z39;
                play = 2
                page 0 = 1 0 - - - - 0
                page 1 = 1 2 6 - - - 0
                """);
    }
}
