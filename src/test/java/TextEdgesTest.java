/** The edges that the document names in promises 1 to 5 and in "Text": above each test its sentence. */
public final class TextEdgesTest {
    private static final int MIN = Integer.MIN_VALUE;
    private static final int MAX = Integer.MAX_VALUE;
    private static final String FULL = "N" + "w".repeat(119);
    private static final String DIGITS = "0123456789";
    private static final String LETTERS = "dpwsb";
    private static final String HEAP_OF_13 = "w".repeat(13);

    private TextEdgesTest() {
    }

    // ---- promise 1

    // "Creates a table without a round."
    private static void newObject() {
        Counted x = new Counted();
        int[] about = {0, 0, 0, -1, 0, 0, -1, 0, 0, 0, 0, 0};
        for (int what = 0; what < 12; what++) {
            Check.due("new: about(" + what + ")", x.about(what), about[what]);
        }
        Check.due("new: free(0)", x.free(0), 625);
        Check.due("new: free(1)", x.free(1), 625);
        Check.due("new: errorPosition()", x.errorPosition(), 0);
        Check.due("new: clearText()", x.clearText(), 0);
        Check.due("new: save(0)", x.save(0), 0);
    }

    private static void newObjectHasNothingToDo() {
        Counted x = new Counted();
        Check.state("new: play()", () -> x.play(0, false));
        Check.state("new: draw()", () -> x.draw());
        Check.state("new: pass()", () -> x.pass());
        Check.state("new: undo()", () -> x.undo());
        Check.state("new: load()", () -> x.load());
        Check.state("new: restore(0)", () -> x.restore(0));
        Check.state("new: restore(1)", () -> x.restore(1));
        Check.index("new: laid(0, 0)", () -> x.laid(0, 0));
    }

    // ---- promise 2

    // "c: character code, 0 to 255"
    private static void appendOfTheLeastAndTheGreatestCode() {
        Check.due("append(0)", new Counted().append(0), 1);
        Check.due("append(255)", new Counted().append(255), 1);
    }

    // "Throws IllegalArgumentException if c is out of range"
    private static void appendOutOfRange() {
        for (int c : new int[] {-1, 256, MIN, MAX, 256 + 'N', 'N' - 256}) {
            Counted x = new Counted();
            Check.argument("append(" + c + ")", () -> x.append(c));
            Check.due("the length behind append(" + c + ")", x.clearText(), 0);
        }
    }

    // "The object has a text buffer of at most 120 characters."
    private static void appendUntilFull() {
        Counted x = new Counted();
        for (int i = 1; i <= 120; i++) {
            Check.due("append() as number " + i, x.append(i), i);
        }
    }

    // "Throws IllegalStateException if the text already has 120 characters"
    private static void appendToAFullText() {
        Counted x = Games.written(FULL);
        Check.state("append('w') as number 121", () -> x.append('w'));
        Check.state("append('w') as number 121 again", () -> x.append('w'));
        Check.due("the length behind it", x.clearText(), 120);
    }

    // "If several exceptions apply to a call, the one that its description names first is thrown."
    private static void appendOutOfRangeToAFullText() {
        Counted x = Games.written(FULL);
        Check.argument("append(-1) to a full text", () -> x.append(-1));
        Check.argument("append(256) to a full text", () -> x.append(256));
    }

    // "Returns the new length of the text."
    private static void appendBehindClearText() {
        Counted x = Games.written(FULL);
        x.clearText();
        Check.due("append() behind clearText() of a full text", x.append('N'), 1);
    }

    // ---- promise 3

    // "Returns the previous length of the text."
    private static void clearTextOfNoneOneAndAll() {
        Check.due("clearText() of no text", new Counted().clearText(), 0);
        Check.due("clearText() of one character", Games.written("N").clearText(), 1);
        Check.due("clearText() of 119", Games.written(FULL.substring(1)).clearText(), 119);
        Check.due("clearText() of a full text", Games.written(FULL).clearText(), 120);
    }

    // "Empties the text buffer."
    private static void clearTextTwice() {
        Counted x = Games.written("Nd311");
        x.clearText();
        Check.due("clearText() again", x.clearText(), 0);
        Check.due("errorPosition() behind it", x.errorPosition(), 0);
        Games.write(x, "Nb");
        Check.due("errorPosition() of a new text", x.errorPosition(), -1);
    }

    // ---- promise 4

    private static void error(String text, int want) {
        Counted x = Games.written(text);
        Check.due("errorPosition() of " + text, x.errorPosition(), want);
    }

    // Each character at a place, whether it is allowed there, and whether the text is a game with it.
    private static void everyCharacterBehind(String begin, String allowed, String whole) {
        for (int c = 0; c < 256; c++) {
            Counted x = Games.written(begin);
            x.append(c);
            int want = whole.indexOf(c) >= 0 ? -1 : allowed.indexOf(c) >= 0 ? begin.length() + 1 : begin.length();
            Check.due("errorPosition() of " + begin + " and " + c, x.errorPosition(), want);
        }
    }

    // "A game as a text is the letter N, and then any number of commands"
    private static void theLetterNFirst() {
        everyCharacterBehind("", "N", "N");
    }

    private static void aCommandBegins() {
        for (String begin : new String[] {"N", "Nw", "Ns", "Nb", "Nd200", "Nd499", "Np00r", "Np27l", "Nbw"}) {
            everyCharacterBehind(begin, LETTERS, "wsb");
        }
    }

    // "d, a digit for players (2 to 4), and two digits (00 to 99)"
    private static void theDigitsOfDeal() {
        everyCharacterBehind("Nd", "234", "");
        for (String players : new String[] {"2", "3", "4"}) {
            everyCharacterBehind("Nd" + players, DIGITS, "");
            everyCharacterBehind("Nd" + players + "0", DIGITS, DIGITS);
            everyCharacterBehind("Nd" + players + "9", DIGITS, DIGITS);
        }
    }

    // "p, two digits for a tile (00 to 27), and r or l"; "a digit is not allowed if no number that is allowed begins
    // with it and those before it"
    private static void theDigitsOfPlay() {
        everyCharacterBehind("Np", "012", "");
        everyCharacterBehind("Np0", DIGITS, "");
        everyCharacterBehind("Np1", DIGITS, "");
        everyCharacterBehind("Np2", "01234567", "");
        for (String tile : new String[] {"00", "09", "10", "19", "20", "27"}) {
            everyCharacterBehind("Np" + tile, "rl", "rl");
        }
    }

    // "There are no blanks."
    private static void noBlanks() {
        String game = "Nd311p07rb";
        for (int i = 0; i <= game.length(); i++) {
            error(game.substring(0, i) + " " + game.substring(i), i);
        }
    }

    // "The text is read from left to right. The error position is the index of the first character .."
    private static void theFirstOfSeveralErrors() {
        error("xNd", 0);
        error("NxNx", 1);
        error("Np28rx", 3);
        error("Nd1wwd", 2);
        error("Nwp3p4", 3);
    }

    // "if the text ends too soon, it is the length of the text"
    private static void theTextEndsTooSoon() {
        for (String text : new String[] {"", "Nd", "Nd2", "Nd20", "Np", "Np0", "Np00", "Nbp27", "Nwwd49"}) {
            error(text, text.length());
        }
    }

    private static void errorPositionOfAFullText() {
        error(FULL, -1);
        error(FULL.substring(0, 119) + "d", 120);
        error(FULL.substring(0, 119) + "r", 119);
        error(FULL.substring(0, 116) + "p27l", -1);
        error(FULL.substring(0, 117) + "p27", 120);
    }

    // "NONE if it is a game"
    private static void theShortestGame() {
        error("N", -1);
    }

    // ---- promise 5

    private static void loads(String commands, int leftOut, String sameAs) {
        Counted x = Games.written("N" + commands);
        Check.due("load() of N" + commands, x.load(), leftOut);
        Check.same("load() of N" + commands, Games.view(x), Games.view(Games.acted(sameAs)));
    }

    // "Throws IllegalStateException if the text is not a game"
    private static void loadOfNoGame() {
        String[] texts = {"", "n", "Nx", "Nd", "Nd2", "Nd20", "Nd100", "Nd500", "Np", "Np0", "Np00", "Np28r", "Np00w",
            "N ", "NN", FULL.substring(0, 119) + "d", FULL.substring(0, 119) + "x"};
        for (String text : texts) {
            Counted x = Games.written(text);
            Check.state("load() of " + text, () -> x.load());
        }
    }

    // "Keeps the text, also if it throws the exception."
    private static void loadThatThrowsKeepsTheText() {
        Counted x = Games.written("Nd31");
        Check.state("load() of Nd31", () -> x.load());
        Check.due("append() behind it", x.append('1'), 5);
        Check.due("load() of Nd311", x.load(), 0);
        Check.due("the rounds of Nd311", x.about(0), 1);
    }

    private static void loadKeepsTheText() {
        Counted x = Games.written("Nd311");
        x.load();
        Check.due("append() behind load()", x.append('b'), 6);
        Check.due("load() again", x.load(), 0);
        Check.due("the tiles on the table", x.about(5), 1);
        Check.due("the length", x.clearText(), 6);
    }

    // "Makes everything as in a new object"
    private static void loadOfTheShortestGame() {
        for (String before : new String[] {"", Games.COVERED, Games.WON, Games.BLOCKED, Games.WON + "d258w"}) {
            Counted x = Games.acted(before);
            Check.outcome(() -> x.play(27, false));
            Games.write(x, "N");
            Check.due("load() of N behind " + before, x.load(), 0);
            Check.same("load() of N behind " + before, Games.view(x), Games.view(new Counted()));
        }
    }

    // "Behind it no state is remembered"
    private static void loadForgetsWhatIsRemembered() {
        Counted x = Games.acted(Games.COVERED);
        Games.write(x, "Nd311wwb");
        x.load();
        Check.state("undo() behind load()", () -> x.undo());
        x.draw();
        Check.due("undo() of an action behind load()", x.undo(), 0);
    }

    // ".. and both save slots are empty"
    private static void loadEmptiesTheSlots() {
        Counted x = Games.acted(Games.COVERED);
        x.save(0);
        x.save(1);
        Games.write(x, "Nd311");
        x.load();
        Check.state("restore(0) behind load()", () -> x.restore(0));
        Check.state("restore(1) behind load()", () -> x.restore(1));
    }

    // "Commands that would throw an exception .. are left out"
    private static void loadLeavesOutWithoutARound() {
        loads("w", 1, "");
        loads("s", 1, "");
        loads("p00r", 1, "");
        loads("p27l", 1, "");
        loads("wsp00rwsp27l", 6, "");
    }

    private static void loadLeavesOutWhenTheRoundIsOver() {
        for (String over : new String[] {Games.WON, Games.BLOCKED}) {
            loads(over + "w", 1, over);
            loads(over + "s", 1, over);
            loads(over + "p02r", 1, over);
            loads(over + "b", 0, over);
        }
    }

    private static void loadLeavesOutDrawFromNoHeap() {
        loads("d311" + HEAP_OF_13, 0, "d311" + HEAP_OF_13);
        loads("d311" + HEAP_OF_13 + "w", 1, "d311" + HEAP_OF_13);
    }

    private static void loadLeavesOutPassWithAHeap() {
        loads("d311s", 1, "d311");
        loads("d311" + "w".repeat(12) + "s", 1, "d311" + "w".repeat(12));
        loads("d311" + HEAP_OF_13 + "s", 0, "d311" + HEAP_OF_13 + "s");
    }

    // ".. and tiles that cannot be laid, are left out"
    private static void loadLeavesOutTilesForEachReason() {
        loads("d311p02r", 1, "d311");
        loads("d311p11rp02r", 1, "d311p11r");
        loads(Games.COVERED + "p09r", 1, Games.COVERED);
        loads(Games.BOTH_COVERED + "p00l", 1, Games.BOTH_COVERED);
        loads(Games.AT_THE_EDGE + "p15r", 1, Games.AT_THE_EDGE);
        loads(Games.AT_THE_SOUTH + "p16r", 1, Games.AT_THE_SOUTH);
        loads(Games.AT_THE_NORTH + "p16r", 1, Games.AT_THE_NORTH);
        loads(Games.AT_THE_WEST + "p24r", 1, Games.AT_THE_WEST);
    }

    // "(these count as refused nowhere)"
    private static void whatIsLeftOutIsNotRefused() {
        Counted x = Games.written("Np00rd311p02rp11rp02rswsp27l");
        Check.due("load()", x.load(), 6);
        Check.due("about(10)", x.about(10), 0);
    }

    // "b: play() of the tile that best() tells, to the right, nothing if it tells none"
    private static void loadLaysTheBestToTheRight() {
        loads("d233b", 0, "d233p27r");
        loads("d311bb", 0, "d311p26rp12r");
        loads("d233bwwwb", 0, "d233p27rwwwp21r");
    }

    // "(a b that lays nothing is none of these)"
    private static void loadOfBThatLaysNothing() {
        loads("b", 0, "");
        loads("bbb", 0, "");
        loads(Games.COVERED + "b", 0, Games.COVERED);
        loads(Games.BOTH_COVERED + "b", 0, Games.BOTH_COVERED);
        loads(Games.AT_THE_EDGE + "b", 0, Games.AT_THE_EDGE);
        loads("d233p27rb", 0, "d233p27r");
    }

    // "Returns the number of commands that are left out"
    private static void loadOfAFullText() {
        Counted x = Games.written(FULL);
        Check.due("load() of N and 119 w", x.load(), 119);
        Counted y = Games.written("N" + "b".repeat(119));
        Check.due("load() of N and 119 b", y.load(), 0);
        Counted z = Games.written("Nd311" + "w".repeat(115));
        Check.due("load() of Nd311 and 115 w", z.load(), 102);
        Counted last = Games.written("N" + "w".repeat(115) + "d311");
        Check.due("load() of N, 115 w, and d311", last.load(), 115);
        Check.due("the last command of a full text", last.about(0), 1);
    }

    private static void loadOfTheLeastAndTheGreatestNumbers() {
        loads("d200", 0, "d200");
        loads("d299", 0, "d299");
        loads("d400", 0, "d400");
        loads("d499", 0, "d499");
        loads("d489p00r", 0, "d489p00r");
        loads("d233p27l", 0, "d233p27l");
    }

    public static void main(String[] args) {
        newObject();
        newObjectHasNothingToDo();
        appendOfTheLeastAndTheGreatestCode();
        appendOutOfRange();
        appendUntilFull();
        appendToAFullText();
        appendOutOfRangeToAFullText();
        appendBehindClearText();
        clearTextOfNoneOneAndAll();
        clearTextTwice();
        theLetterNFirst();
        aCommandBegins();
        theDigitsOfDeal();
        theDigitsOfPlay();
        noBlanks();
        theFirstOfSeveralErrors();
        theTextEndsTooSoon();
        errorPositionOfAFullText();
        theShortestGame();
        loadOfNoGame();
        loadThatThrowsKeepsTheText();
        loadKeepsTheText();
        loadOfTheShortestGame();
        loadForgetsWhatIsRemembered();
        loadEmptiesTheSlots();
        loadLeavesOutWithoutARound();
        loadLeavesOutWhenTheRoundIsOver();
        loadLeavesOutDrawFromNoHeap();
        loadLeavesOutPassWithAHeap();
        loadLeavesOutTilesForEachReason();
        whatIsLeftOutIsNotRefused();
        loadLaysTheBestToTheRight();
        loadOfBThatLaysNothing();
        loadOfAFullText();
        loadOfTheLeastAndTheGreatestNumbers();
        Check.end();
    }
}
