/** "A call that throws an exception changes nothing": neither the state, nor the text, nor what is kept. */
public final class RefusedCallsTest {
    private static final String INDEX = "IndexOutOfBoundsException";
    private static final String ARGUMENT = "IllegalArgumentException";
    private static final String STATE = "IllegalStateException";
    private static final String HEAP_OF_13 = "w".repeat(13);

    private interface Maker {
        Counted make();
    }

    private interface Refused {
        long ask(Counted x);
    }

    private RefusedCallsTest() {
    }

    // ---- objects, each made anew whenever it is wanted

    private static Counted withAText() {
        return Games.written("Nd3");
    }

    private static Counted withAFullText() {
        Counted x = Games.acted("d311");
        Games.write(x, "Nd311" + "w".repeat(115));
        return x;
    }

    private static Counted inARound() {
        Counted x = Games.acted("d430p20lp05r");
        x.save(0);
        Games.act(x, "p00rp06rp27rp17lp13rwp08l");
        x.play(9, false);
        Games.write(x, "Nd311p28");
        return x;
    }

    private static Counted behindMoreThan14() {
        Counted x = Games.acted("d311" + HEAP_OF_13 + "ssp14r");
        x.save(1);
        x.pass();
        Games.write(x, "Nb ");
        return x;
    }

    private static Counted over(String game) {
        Counted x = Games.acted(game);
        x.save(0);
        x.save(1);
        Games.write(x, "N" + game + "d");
        return x;
    }

    private static Counted behindUndo() {
        Counted x = Games.acted("d311www");
        x.undo();
        x.undo();
        return x;
    }

    private static Counted behindRestore() {
        Counted x = Games.acted("d311p11r");
        x.save(1);
        x.draw();
        x.restore(1);
        return x;
    }

    private static final Maker[] ALL = {
        () -> new Counted(), () -> withAText(), () -> withAFullText(), () -> inARound(), () -> behindMoreThan14(),
        () -> over(Games.WON), () -> over(Games.BLOCKED), () -> behindUndo(), () -> behindRestore()};

    // ---- how each is asked

    private static void changesNothing(String name, String want, Maker maker, Refused call) {
        Counted asked = maker.make();
        Check.same(name, Check.outcome(() -> call.ask(asked)), want);
        Check.same(name + ": everything behind it", Games.everything(asked), Games.everything(maker.make()));
    }

    private static void everywhere(String name, String want, Refused call) {
        for (int i = 0; i < ALL.length; i++) {
            changesNothing("object " + i + ": " + name, want, ALL[i], call);
        }
    }

    // ---- the calls, promise by promise

    private static void text() {
        everywhere("append(-1)", ARGUMENT, x -> x.append(-1));
        everywhere("append(256)", ARGUMENT, x -> x.append(256));
        changesNothing("append() to a full text", STATE, () -> withAFullText(), x -> x.append('w'));
        changesNothing("load() of no text", STATE, () -> behindUndo(), x -> x.load());
        changesNothing("load() of a text that ends too soon", STATE, () -> withAText(), x -> x.load());
        changesNothing("load() in a round", STATE, () -> inARound(), x -> x.load());
        changesNothing("load() behind more than 14", STATE, () -> behindMoreThan14(), x -> x.load());
        changesNothing("load() of a round that is over", STATE, () -> over(Games.WON), x -> x.load());
    }

    private static void whatThereIs() {
        everywhere("about(-1)", ARGUMENT, x -> x.about(-1));
        everywhere("about(12)", ARGUMENT, x -> x.about(12));
        everywhere("tileOf(-1, 2)", INDEX, x -> x.tileOf(-1, 2));
        everywhere("tileOf(28, 2)", INDEX, x -> x.tileOf(28, 2));
        everywhere("tileOf(0, -1)", ARGUMENT, x -> x.tileOf(0, -1));
        everywhere("tileOf(0, 5)", ARGUMENT, x -> x.tileOf(0, 5));
        everywhere("laid(-1, 0)", INDEX, x -> x.laid(-1, 0));
        everywhere("laid() of one more than there are", INDEX, x -> x.laid(x.about(5), 0));
        changesNothing("laid(0, -1)", ARGUMENT, () -> inARound(), x -> x.laid(0, -1));
        changesNothing("laid(0, 6)", ARGUMENT, () -> inARound(), x -> x.laid(0, 6));
        everywhere("playerOf(-1, 0)", INDEX, x -> x.playerOf(-1, 0));
        everywhere("playerOf(4, 0)", INDEX, x -> x.playerOf(4, 0));
        everywhere("playerOf(0, -1)", ARGUMENT, x -> x.playerOf(0, -1));
        everywhere("playerOf(0, 4)", ARGUMENT, x -> x.playerOf(0, 4));
        everywhere("at(-1, 0)", INDEX, x -> x.at(-1, 0));
        everywhere("at(25, 0)", INDEX, x -> x.at(25, 0));
        everywhere("at(0, -1)", INDEX, x -> x.at(0, -1));
        everywhere("at(0, 25)", INDEX, x -> x.at(0, 25));
        everywhere("free(-1)", ARGUMENT, x -> x.free(-1));
        everywhere("free(2)", ARGUMENT, x -> x.free(2));
    }

    private static void dealAndPlay() {
        everywhere("deal(1)", ARGUMENT, x -> x.deal(1, 7));
        everywhere("deal(5)", ARGUMENT, x -> x.deal(5, 7));
        everywhere("play(-1)", INDEX, x -> x.play(-1, false));
        everywhere("play(28)", INDEX, x -> x.play(28, true));
        changesNothing("play() without a round", STATE, () -> withAText(), x -> x.play(0, false));
        changesNothing("play() when it is won", STATE, () -> over(Games.WON), x -> x.play(2, false));
        changesNothing("play() when it is blocked", STATE, () -> over(Games.BLOCKED), x -> x.play(2, false));
    }

    private static void drawPassAndUndo() {
        changesNothing("draw() without a round", STATE, () -> withAText(), x -> x.draw());
        changesNothing("draw() from no heap", STATE, () -> behindMoreThan14(), x -> x.draw());
        changesNothing("draw() when it is won", STATE, () -> over(Games.WON), x -> x.draw());
        changesNothing("draw() when it is blocked", STATE, () -> over(Games.BLOCKED), x -> x.draw());
        changesNothing("pass() without a round", STATE, () -> withAText(), x -> x.pass());
        changesNothing("pass() with a heap", STATE, () -> inARound(), x -> x.pass());
        changesNothing("pass() when it is won", STATE, () -> over(Games.WON), x -> x.pass());
        changesNothing("pass() when it is blocked", STATE, () -> over(Games.BLOCKED), x -> x.pass());
        changesNothing("undo() of a new object", STATE, () -> withAText(), x -> x.undo());
        changesNothing("undo() behind restore()", STATE, () -> behindRestore(), x -> x.undo());
    }

    private static void whatWouldBe() {
        everywhere("why(-1)", INDEX, x -> x.why(-1));
        everywhere("why(28)", INDEX, x -> x.why(28));
        everywhere("chain(-1, 1)", INDEX, x -> x.chain(-1, 1));
        everywhere("chain(4, 1)", INDEX, x -> x.chain(4, 1));
        everywhere("chain(0, 0)", ARGUMENT, x -> x.chain(0, 0));
        everywhere("chain(0, 7)", ARGUMENT, x -> x.chain(0, 7));
        everywhere("reach(-1)", ARGUMENT, x -> x.reach(-1));
        everywhere("reach(6)", ARGUMENT, x -> x.reach(6));
    }

    private static void scriptsAndSimulations() {
        everywhere("runScript(0, 0)", ARGUMENT, x -> x.runScript(0, 0));
        everywhere("runScript(5, 1200)", ARGUMENT, x -> x.runScript(5, 1200));
        everywhere("runScript(1, -1)", ARGUMENT, x -> x.runScript(1, -1));
        everywhere("runScript(1, 12001200)", ARGUMENT, x -> x.runScript(1, 12001200));
        everywhere("runScript(4, 12001200120012001)", ARGUMENT, x -> x.runScript(4, 12001200120012001L));
        everywhere("runScript(4, greatest)", ARGUMENT, x -> x.runScript(4, Long.MAX_VALUE));
        everywhere("simulate(1, 0)", ARGUMENT, x -> x.simulate(1, 0));
        everywhere("simulate(1, 201)", ARGUMENT, x -> x.simulate(1, 201));
    }

    private static void saveSlots() {
        everywhere("save(-1)", INDEX, x -> x.save(-1));
        everywhere("save(2)", INDEX, x -> x.save(2));
        everywhere("restore(-1)", INDEX, x -> x.restore(-1));
        everywhere("restore(2)", INDEX, x -> x.restore(2));
        changesNothing("restore(0) of nothing", STATE, () -> behindMoreThan14(), x -> x.restore(0));
        changesNothing("restore(1) of nothing", STATE, () -> inARound(), x -> x.restore(1));
        changesNothing("restore(0) of a new object", STATE, () -> withAText(), x -> x.restore(0));
    }

    // ---- what refuses a tile by an answer

    // A play() that is refused changes how often it was, and what is remembered, and nothing else.
    private static void refusedByAReason(String game, int t, int reason) {
        Counted x = Games.acted(game);
        Check.due(game + ": play(" + t + ")", x.play(t, true), reason);
        Check.due(game + ": refused", x.about(10), 1);
        Check.due(game + ": the turn", x.about(3), Games.acted(game).about(3));
        Check.due(game + ": the passes", x.about(8), Games.acted(game).about(8));
        x.undo();
        Check.same(game + ": behind undo() of play(" + t + ")", Games.view(x), Games.view(Games.acted(game)));
    }

    private static void refusedPlays() {
        refusedByAReason("d311", 2, 1);
        refusedByAReason("d311p11r", 2, 2);
        refusedByAReason(Games.COVERED, 9, 3);
        refusedByAReason(Games.AT_THE_EDGE, 15, 3);
        refusedByAReason("d311" + HEAP_OF_13 + "ss", 7, 1);
    }

    // "these and all following methods up to the save slots change nothing"
    private static void questionsChangeNothing() {
        for (int i = 0; i < ALL.length; i++) {
            Counted asked = ALL[i].make();
            for (int t = 0; t < 28; t += 9) {
                asked.why(t);
            }
            asked.legal();
            asked.best();
            asked.chain(0, 6);
            asked.chain(3, 1);
            for (int what = 0; what < 6; what++) {
                asked.reach(what);
            }
            asked.runScript(4, 1311200720098003L);
            asked.runScript(3, 300030004000L);
            asked.simulate(-1, 200);
            Check.same("object " + i + ": behind questions", Games.everything(asked), Games.everything(ALL[i].make()));
        }
    }

    public static void main(String[] args) {
        text();
        whatThereIs();
        dealAndPlay();
        drawPassAndUndo();
        whatWouldBe();
        scriptsAndSimulations();
        saveSlots();
        refusedPlays();
        questionsChangeNothing();
        Check.end();
    }
}
