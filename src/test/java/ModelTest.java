import java.util.ArrayList;
import java.util.List;
import java.util.Random;

/** Long runs of calls with a fixed seed, each answer compared with that of the model. */
public final class ModelTest {
    private static final int RUNS = 500;
    /** Some of these are followed by many more, beyond what an object is used for: the class does not mind. */
    private static final int CALLS = 512;

    private final Random random;
    private final UndeleteDesks desk = new UndeleteDesks();
    private final DeskModel model = new DeskModel();
    private final List<String> calls = new ArrayList<>();
    /** Styles and lengths are drawn from few values in some runs, so that guesses meet. */
    private final int styles;
    private final int longest;
    /** In some runs little is wiped, claimed and undone, so that there are many guesses. */
    private final int wiping;
    private final boolean keeping;
    private boolean wrong;

    private ModelTest(int seed) {
        random = new Random(seed);
        styles = 1 + random.nextInt(3) * random.nextInt(4);
        longest = 1 + random.nextInt(random.nextBoolean() ? 4 : 12);
        wiping = 1 + random.nextInt(12);
        keeping = random.nextBoolean();
    }

    public static void main(String[] args) {
        int wrongRuns = 0;
        for (int seed = 0; seed < RUNS && wrongRuns < 3; seed++) {
            if (!new ModelTest(seed).run()) {
                wrongRuns++;
            }
        }
        System.out.println(wrongRuns == 0 ? "all runs are as the model says" : "runs differ from the model");
        if (wrongRuns != 0) {
            System.exit(1);
        }
    }

    private boolean run() {
        for (int call = 0; call < CALLS && !wrong; call++) {
            if (call % 97 == 96) {
                compareAll();
            } else if (keeping && call % 97 == 90) {
                if (random.nextBoolean()) {
                    fillAndDelete();
                } else {
                    interleave();
                }
            } else {
                anyCall();
            }
        }
        return !wrong;
    }

    private void due(String call, int got, int want) {
        calls.add(call + " = " + want);
        if (got != want && !wrong) {
            wrong = true;
            calls.forEach(System.out::println);
            System.out.println("the last one answered " + got);
        }
    }

    /** Mostly in the range, sometimes at or beyond its edges. */
    private int draw(int low, int high) {
        int kind = random.nextInt(60);
        if (kind == 0) {
            return random.nextBoolean() ? low - 1 : high + 1;
        }
        if (kind == 1) {
            int[] far = {Integer.MIN_VALUE, Integer.MAX_VALUE, -1000, 1000, 100};
            return far[random.nextInt(far.length)];
        }
        return low + random.nextInt(high - low + 1);
    }

    private int drawStyle() {
        return random.nextInt(40) == 0 ? draw(0, 9) : random.nextInt(styles);
    }

    private int drawLength() {
        return random.nextInt(8) == 0 ? draw(1, 12) : 1 + random.nextInt(longest);
    }

    /** Mostly the name of a file that is there, or of one that is not. */
    private int drawName(boolean there) {
        int name = draw(0, 29);
        for (int k = 0; k < 30 && random.nextInt(20) != 0 && model.fileOf(name, 0) >= 0 != there; k++) {
            name = draw(0, 29);
        }
        return name;
    }

    private int drawPage(boolean free) {
        int page = draw(0, 39);
        for (int k = 0; k < 30 && random.nextInt(20) != 0 && model.pageOf(page, 0) == 1 != free; k++) {
            page = draw(0, 39);
        }
        return page;
    }

    private void anyCall() {
        int kind = random.nextInt(100);
        if (kind < 20) {
            write(drawName(false), drawStyle(), drawLength(), draw(0, 2));
        } else if (kind < 36) {
            int name = drawName(true);
            due("delete " + name, desk.delete(name), model.delete(name));
        } else if (keeping && kind < 61 && random.nextInt(8) != 0) {
            question();
        } else if (kind < 36 + wiping) {
            int page = drawPage(true);
            due("wipe " + page, desk.wipe(page), model.wipe(page));
        } else if (kind < 49) {
            if (random.nextInt(8) == 0) {
                due("wipeAll", desk.wipeAll(), model.wipeAll());
            }
        } else if (kind < 55) {
            int guess = draw(0, random.nextBoolean() ? 3 : 14);
            int name = draw(-1, random.nextBoolean() ? 0 : 29);
            due("claim " + guess + " " + name, desk.claim(guess, name), model.claim(guess, name));
        } else if (kind < 61) {
            due("undo", desk.undo(), model.undo());
        } else if (kind < 67) {
            typeSome();
        } else if (kind < 71) {
            playText();
        } else {
            question();
        }
    }

    /** Many guesses at once, of which some are wiped, overwritten or cut short then. */
    private void fillAndDelete() {
        for (int k = 0; k < 25; k++) {
            write(drawName(false), drawStyle(), drawLength(), draw(0, 2));
        }
        for (int name = 0; name < 30; name++) {
            if (random.nextInt(6) != 0) {
                due("delete " + name, desk.delete(name), model.delete(name));
            }
        }
        for (int k = random.nextInt(4); k > 0; k--) {
            int name = drawName(false);
            write(name, drawStyle(), drawLength(), draw(0, 2));
            due("delete " + name, desk.delete(name), model.delete(name));
        }
        for (int k = random.nextInt(4); k > 0; k--) {
            int page = drawPage(true);
            due("wipe " + page, desk.wipe(page), model.wipe(page));
        }
    }

    /**
     * Files in the gaps of others: when pages are wiped after all are deleted, the guesses go on at neighbors,
     * and share pages.
     */
    private void interleave() {
        deleteSome(1);
        due("wipeAll", desk.wipeAll(), model.wipeAll());
        int style = drawStyle();
        int singles = 10 + random.nextInt(16);
        for (int name = 0; name < singles; name++) {
            write(name, style, 1, 0);
        }
        for (int round = 0; round < 2; round++) {
            for (int name = 0; name < singles; name++) {
                if (model.fileOf(name, 0) >= 0 && (round == 1 || random.nextBoolean())) {
                    due("delete " + name, desk.delete(name), model.delete(name));
                }
            }
            for (int k = 1 + random.nextInt(4); k > 0; k--) {
                write(25 + random.nextInt(5), style, 2 + random.nextInt(5), 0);
            }
        }
        deleteSome(random.nextInt(10) == 0 ? 2 : 1);
        for (int k = random.nextInt(9); k > 0; k--) {
            int page = random.nextInt(singles + 6);
            if (model.pageOf(page, 1) == 2) {
                due("wipe " + page, desk.wipe(page), model.wipe(page));
            }
        }
        compareAll();
    }

    /** Deletes one of so many of the files. */
    private void deleteSome(int of) {
        for (int name = 0; name < 30; name++) {
            if (model.fileOf(name, 0) >= 0 && random.nextInt(of) == 0) {
                due("delete " + name, desk.delete(name), model.delete(name));
            }
        }
    }

    private void write(int name, int style, int length, int layout) {
        due("write " + name + " " + style + " " + length + " " + layout,
                desk.write(name, style, length, layout), model.write(name, style, length, layout));
    }

    private void typeSome() {
        if (random.nextInt(4) != 0) {
            due("clearText", desk.clearText(), model.clearText());
        }
        StringBuilder text = new StringBuilder();
        for (int n = random.nextInt(6); n >= 0; n--) {
            text.append(order());
        }
        if (random.nextInt(6) == 0) {
            text.insert(random.nextInt(text.length() + 1), "wdcz,;0 9x".charAt(random.nextInt(10)));
        }
        if (random.nextInt(8) == 0) {
            text.deleteCharAt(random.nextInt(text.length()));
        }
        for (int k = 0; k < text.length(); k++) {
            int sign = random.nextInt(300) == 0 ? draw(32, 126) : text.charAt(k);
            due("type " + sign, desk.type(sign), model.type(sign));
        }
    }

    /** A number of a text, now and then one that is out of every range or of three digits. */
    private String number(int value) {
        int shown = value < 0 || value > 99 || random.nextInt(60) == 0 ? random.nextInt(101) : value;
        return (shown < 10 && random.nextInt(5) == 0 ? "0" : "") + shown;
    }

    private String order() {
        int kind = random.nextInt(9);
        if (kind < 4) {
            return "w" + number(drawName(false)) + "," + number(drawStyle()) + "," + number(drawLength()) + ";";
        }
        return kind < 6 ? "d" + number(drawName(true)) + ";"
                : kind < 8 ? "c" + number(random.nextInt(3)) + ";" : "z" + number(drawPage(true)) + ";";
    }

    private void playText() {
        due("fault 0", desk.fault(0), model.fault(0));
        due("fault 1", desk.fault(1), model.fault(1));
        due("play", desk.play(), model.play());
    }

    private void question() {
        int what;
        switch (random.nextInt(9)) {
            case 0:
                int name = draw(0, 29);
                what = draw(0, 22);
                due("fileOf " + name + " " + what, desk.fileOf(name, what), model.fileOf(name, what));
                break;
            case 1:
                int page = draw(0, 39);
                what = draw(0, 6);
                due("pageOf " + page + " " + what, desk.pageOf(page, what), model.pageOf(page, what));
                break;
            case 2:
                int index = draw(0, 6);
                what = draw(0, 2);
                due("journalOf " + index + " " + what, desk.journalOf(index, what), model.journalOf(index, what));
                break;
            case 3:
                int guess = draw(0, 8);
                what = draw(0, 22);
                due("guessOf " + guess + " " + what, desk.guessOf(guess, what), model.guessOf(guess, what));
                break;
            case 4:
                what = draw(0, 1);
                due("bestGuesses " + what, desk.bestGuesses(what), model.bestGuesses(what));
                break;
            case 5:
                int length = drawLength();
                int layout = draw(0, 2);
                what = draw(0, 3);
                due("would " + length + " " + layout + " " + what,
                        desk.would(length, layout, what), model.would(length, layout, what));
                break;
            case 6:
                int asked = drawLength();
                due("gentlest " + asked, desk.gentlest(asked), model.gentlest(asked));
                break;
            case 7:
                what = draw(0, 12);
                due("count " + what, desk.count(what), model.count(what));
                break;
            default:
                what = draw(0, 1);
                due("fault " + what, desk.fault(what), model.fault(what));
                break;
        }
    }

    /** Everything that can be asked. */
    private void compareAll() {
        for (int what = -1; what <= 23; what++) {
            for (int name = 0; name < 30; name++) {
                due("fileOf " + name + " " + what, desk.fileOf(name, what), model.fileOf(name, what));
            }
            for (int guess = 0; guess <= model.count(3); guess++) {
                due("guessOf " + guess + " " + what, desk.guessOf(guess, what), model.guessOf(guess, what));
            }
        }
        for (int what = -1; what <= 7; what++) {
            for (int page = 0; page < 40; page++) {
                due("pageOf " + page + " " + what, desk.pageOf(page, what), model.pageOf(page, what));
            }
        }
        for (int what = 0; what <= 2; what++) {
            for (int index = 0; index <= 6; index++) {
                due("journalOf " + index + " " + what, desk.journalOf(index, what), model.journalOf(index, what));
            }
        }
        for (int what = -1; what <= 13; what++) {
            due("count " + what, desk.count(what), model.count(what));
        }
        for (int length = 1; length <= 12; length++) {
            for (int layout = 0; layout <= 2; layout++) {
                for (int what = 0; what <= 3; what++) {
                    due("would " + length + " " + layout + " " + what,
                            desk.would(length, layout, what), model.would(length, layout, what));
                }
            }
            due("gentlest " + length, desk.gentlest(length), model.gentlest(length));
        }
        due("bestGuesses 0", desk.bestGuesses(0), model.bestGuesses(0));
        due("bestGuesses 1", desk.bestGuesses(1), model.bestGuesses(1));
    }
}
