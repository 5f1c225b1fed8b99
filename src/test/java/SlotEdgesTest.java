/** The edges that the document names in promises 24 and 25: above each test its sentence. */
public final class SlotEdgesTest {
    private static final int[] NO_SLOTS = {-1, 2, Integer.MIN_VALUE, Integer.MAX_VALUE};
    private static final String[] GAMES = {"", "d311", Games.COVERED, Games.BOTH_COVERED, Games.WON, Games.BLOCKED,
        Games.BLOCKED + "d311p20r"};

    private SlotEdgesTest() {
    }

    // ---- promise 24

    // "Throws IndexOutOfBoundsException if there is no such save slot"
    private static void saveToNoSlot() {
        for (String game : GAMES) {
            for (int slot : NO_SLOTS) {
                Check.index(game + ": save(" + slot + ")", () -> Games.acted(game).save(slot));
            }
        }
    }

    // "Returns the rounds so far."
    private static void saveTellsTheRounds() {
        int[] rounds = {0, 1, 1, 1, 1, 1, 2};
        for (int i = 0; i < GAMES.length; i++) {
            for (int slot = 0; slot < 2; slot++) {
                Check.due(GAMES[i] + ": save(" + slot + ")", Games.acted(GAMES[i]).save(slot), rounds[i]);
            }
        }
    }

    // "Stores the present state in a save slot."
    private static void saveReplacesWhatWasSaved() {
        Counted x = Games.acted("d311");
        x.save(1);
        x.draw();
        x.save(1);
        x.draw();
        x.restore(1);
        Check.same("what was saved last", Games.view(x), Games.view(Games.acted("d311w")));
    }

    private static void saveToBothSlots() {
        Counted x = Games.acted("d311");
        x.save(0);
        x.draw();
        x.save(1);
        x.draw();
        x.restore(0);
        Check.due("the heap of the slot 0", x.about(4), 13);
        x.restore(1);
        Check.due("the heap of the slot 1", x.about(4), 12);
        x.restore(0);
        Check.due("the heap of the slot 0 again", x.about(4), 13);
    }

    // "undo is none", and save is no action either: what is remembered stays
    private static void saveKeepsWhatIsRemembered() {
        Counted x = Games.acted("d311ww");
        x.save(0);
        Check.due("undo() behind save()", x.undo(), 2);
        Check.due("the heap behind it", x.about(4), 12);
    }

    // ---- promise 25

    // "Throws IndexOutOfBoundsException if there is no such save slot"
    private static void restoreOfNoSlot() {
        for (String game : GAMES) {
            for (int slot : NO_SLOTS) {
                Check.index(game + ": restore(" + slot + ")", () -> Games.acted(game).restore(slot));
            }
        }
        Counted x = new Counted();
        x.save(0);
        x.save(1);
        for (int slot : NO_SLOTS) {
            Check.index("both are saved: restore(" + slot + ")", () -> x.restore(slot));
        }
    }

    // "Throws IllegalStateException if nothing has been saved in it .."
    private static void restoreOfAnEmptySlot() {
        for (String game : GAMES) {
            Check.state(game + ": restore(0)", () -> Games.acted(game).restore(0));
            Check.state(game + ": restore(1)", () -> Games.acted(game).restore(1));
        }
        Counted first = Games.acted("d311");
        first.save(0);
        Check.state("restore(1), saved in 0", () -> first.restore(1));
        Counted second = Games.acted("d311");
        second.save(1);
        Check.state("restore(0), saved in 1", () -> second.restore(0));
    }

    // ".. since the last load"
    private static void restoreBehindLoad() {
        Counted x = Games.acted("d311");
        x.save(0);
        x.save(1);
        Games.write(x, "Nd");
        Check.state("load() of no game", () -> x.load());
        Check.due("restore(0) behind load() that throws", x.restore(0), 1);
        Check.due("restore(1) behind load() that throws", x.restore(1), 1);
        Games.write(x, "200");
        Check.due("load()", x.load(), 0);
        Check.state("restore(0) behind load()", () -> x.restore(0));
        Check.state("restore(1) behind load()", () -> x.restore(1));
        x.save(1);
        Check.due("restore(1) of what was saved behind load()", x.restore(1), 1);
        Check.state("restore(0) still", () -> x.restore(0));
    }

    // "Returns the rounds so far then."
    private static void restoreTellsTheRounds() {
        int[] rounds = {0, 1, 1, 1, 1, 1, 2};
        for (int i = 0; i < GAMES.length; i++) {
            Counted x = Games.acted(GAMES[i]);
            x.save(0);
            x.deal(2, 1);
            x.deal(2, 2);
            Check.due(GAMES[i] + ": restore(0)", x.restore(0), rounds[i]);
        }
    }

    // "Replaces the state by the one in a save slot"
    private static void restoreOfEachState() {
        for (String game : GAMES) {
            for (int slot = 0; slot < 2; slot++) {
                Counted x = Games.acted(game);
                x.save(slot);
                Games.act(x, "d430w");
                for (int k = 0; k < 4; k++) {
                    x.play(Math.max(0, x.best()), true);
                }
                x.restore(slot);
                Check.same(game + ": restore(" + slot + ")", Games.view(x), Games.view(Games.acted(game)));
            }
        }
    }

    // "and forgets all remembered states"
    private static void restoreForgetsWhatIsRemembered() {
        Counted x = Games.acted("d311ww");
        x.save(0);
        x.draw();
        x.restore(0);
        Check.state("undo() behind restore()", () -> x.undo());
        x.draw();
        Check.due("undo() of an action behind restore()", x.undo(), 0);
        Check.due("the heap behind it", x.about(4), 11);
    }

    // "The save slot keeps it."
    private static void restoreTwice() {
        Counted x = Games.acted("d311");
        x.save(1);
        Games.act(x, "wp26r");
        x.restore(1);
        Games.act(x, "p07lp12r");
        Check.due("restore(1) again", x.restore(1), 1);
        Check.same("the saved state", Games.view(x), Games.view(Games.acted("d311")));
    }

    // "the state, which consists of everything but the text and the save slots"
    private static void restoreKeepsTheTextAndTheOtherSlot() {
        Counted x = Games.acted("d311");
        x.save(0);
        x.deal(2, 1);
        x.save(1);
        Games.write(x, "Nd311");
        x.restore(0);
        Check.due("the text", x.clearText(), 5);
        Check.due("the other slot", x.restore(1), 2);
    }

    private static void restoreOfWhatWasRefused() {
        Counted x = Games.acted("d311");
        x.play(0, false);
        x.save(0);
        x.play(0, false);
        Check.due("refused", x.about(10), 2);
        x.restore(0);
        Check.due("refused behind restore()", x.about(10), 1);
    }

    public static void main(String[] args) {
        saveToNoSlot();
        saveTellsTheRounds();
        saveReplacesWhatWasSaved();
        saveToBothSlots();
        saveKeepsWhatIsRemembered();
        restoreOfNoSlot();
        restoreOfAnEmptySlot();
        restoreBehindLoad();
        restoreTellsTheRounds();
        restoreOfEachState();
        restoreForgetsWhatIsRemembered();
        restoreTwice();
        restoreKeepsTheTextAndTheOtherSlot();
        restoreOfWhatWasRefused();
        Check.end();
    }
}
