/** Promises 24 and 25: save, restore. */
public final class SlotTest {
    private static final int[] NO_SLOTS = {-1, 2, Integer.MIN_VALUE, Integer.MAX_VALUE};

    private static void promise24Save() {
        Counted x = new Counted();
        Check.due("save(0) of a new object", x.save(0), 0);
        Games.act(x, Games.WON);
        String before = Games.view(x);
        Check.due("save(1)", x.save(1), 1);
        Check.same("save() changes nothing of the state", Games.view(x), before);
        x.deal(2, 1);
        Check.due("save(1) of the next round", x.save(1), 2);
        Check.due("undo() behind save()", x.undo(), 11);
        for (int slot : NO_SLOTS) {
            Check.index("save(" + slot + ")", () -> x.save(slot));
        }
        Check.due("restore(1)", x.restore(1), 2);
        Check.due("the slots are two", x.restore(0), 0);
    }

    private static void promise25Restore() {
        Counted x = Games.acted("d311p11rw");
        for (int slot : NO_SLOTS) {
            Check.index("restore(" + slot + ")", () -> x.restore(slot));
        }
        Check.state("restore(0) of nothing", () -> x.restore(0));
        x.save(0);
        String saved = Games.view(x);
        Check.state("restore(1) of nothing", () -> x.restore(1));
        x.undo();
        x.play(20, false);
        x.play(27, false);
        x.deal(4, 1);
        String later = Games.view(x);
        x.save(1);
        Check.due("restore(0)", x.restore(0), 1);
        Check.same("restore(0)", Games.view(x), saved);
        Check.state("undo() behind restore()", () -> x.undo());
        x.draw();
        Check.due("undo() of what was done behind restore()", x.undo(), 0);
        x.draw();
        x.play(20, true);
        Check.due("restore(0) again", x.restore(0), 1);
        Check.same("the save slot keeps the state", Games.view(x), saved);
        Check.due("restore(1)", x.restore(1), 2);
        Check.same("restore(1)", Games.view(x), later);
    }

    private static void promise25KeepsTheText() {
        Counted x = new Counted();
        Games.write(x, "Nd311");
        x.save(0);
        Games.write(x, "w");
        x.restore(0);
        Check.due("the text behind restore()", x.clearText(), 6);
    }

    private static void promise25ThrowsAndChangesNothing() {
        Counted x = Games.acted("d311p11r");
        String before = Games.view(x);
        Check.state("restore(1) of nothing", () -> x.restore(1));
        Check.index("restore(2)", () -> x.restore(2));
        Check.same("restore() that throws", Games.view(x), before);
        Check.due("undo() behind restore() that throws", x.undo(), 1);
        x.save(1);
        Games.write(x, "N");
        x.load();
        Check.state("restore(1) behind load()", () -> x.restore(1));
        x.save(1);
        Check.due("restore(1) of what was saved behind load()", x.restore(1), 0);
    }

    public static void main(String[] args) {
        promise24Save();
        promise25Restore();
        promise25KeepsTheText();
        promise25ThrowsAndChangesNothing();
        Check.end();
    }
}
