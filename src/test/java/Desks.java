/** Lines that bring a new desk to a state, for several tests. */
final class Desks {
    /** No page is free. */
    static final String FULL = """
            write 0 1 12 0 = 0 / write 1 1 12 0 = 12 / write 2 1 12 0 = 24 / write 3 1 4 0 = 36
            """;

    /** 14 guesses, those of pages 8 to 13 ahead; journal, history and text are full; files 14 and 20 are there. */
    static final String BUSY = """
            # in 0..14: write # 1 1 0 = #
            # in 0..13: delete #
            write 20 6 5 2 = 39
            text z20;z20;z20;z20;z20;z20;z20;z20;z20;z20;z20;z20;z20;z20;z20;
            """;

    /** Pages 0, 2, 4 are a guess; 1, 2, 4 another, which finds 2 by the neighbor; 3, 4 a third one. */
    static final String CROSSING = """
            # in 0..5: write #+10 8 1 0 = #
            delete 10 / delete 12 / delete 14 / write 0 6 3 0 = 0 / pages 0 = 0 2 4
            delete 11 / write 1 6 3 0 = 1 / pages 1 = 1 6 7
            delete 13 / write 2 6 2 0 = 3 / pages 2 = 3 8
            delete 0 / delete 1 / delete 2
            # in 6..9: wipe #
            """;

    private Desks() {
    }
}
