/** Promises 12 to 16: deal, play, draw, pass, undo. */
public final class ActionTest {
    private static final int MIN = Integer.MIN_VALUE;
    private static final int MAX = Integer.MAX_VALUE;

    // The shuffle once more, as the terms tell it.
    private static int[] shuffled(long seed) {
        int[] row = new int[28];
        for (int t = 0; t < 28; t++) {
            row[t] = t;
        }
        long x = seed;
        for (int k = 27; k >= 1; k--) {
            x = x * 6364136223846793005L + 1442695040888963407L;
            int other = (int) (x >>> 33) % (k + 1);
            int moved = row[k];
            row[k] = row[other];
            row[other] = moved;
        }
        return row;
    }

    private static void promise12Deal() {
        long[] seeds = {0, 1, -1, 11, 99, Long.MIN_VALUE, Long.MAX_VALUE, 123456789012345678L};
        for (long seed : seeds) {
            Counted x = new Counted();
            int[] row = shuffled(seed);
            for (int players = 2; players <= 4; players++) {
                Check.due("deal()", x.deal(players, seed), players - 1);
                for (int i = 0; i < 28; i++) {
                    int holder = i < 5 * players ? i / 5 : -1;
                    int inHeap = i < 5 * players ? -1 : i - 5 * players;
                    Check.due("holder, seed " + seed, x.tileOf(row[i], 2), holder);
                    Check.due("place in the heap, seed " + seed, x.tileOf(row[i], 4), inHeap);
                }
            }
        }
    }

    private static void promise12WhoseTurnItIs() {
        Counted x = new Counted();
        int[] players = {2, 2, 2, 3, 3, 3, 4, 4, 4, 4, 4, 3, 2};
        int[] turns = {0, 1, 0, 0, 1, 2, 2, 3, 0, 1, 2, 2, 0};
        for (int k = 0; k < players.length; k++) {
            Check.due("deal() as number " + k, x.deal(players[k], 5), k + 1);
            Check.due("the turn behind deal() as number " + k, x.about(3), turns[k]);
        }
    }

    private static void promise12DealEndsTheRoundOfBefore() {
        Counted x = Games.acted("d311p07lp12rp17r");
        Check.due("deal() in a round", x.deal(2, 33), 2);
        Counted fresh = Games.acted("d200d233");
        for (int what : new int[] {0, 1, 2, 3, 4, 5, 6, 7, 8, 9, 10}) {
            Check.due("about(" + what + ") behind deal()", x.about(what), fresh.about(what));
        }
        for (int p = 0; p < 4; p++) {
            Check.due("a round that is not over scores nothing", x.playerOf(p, 2), 0);
            Check.due("a round that is not over is not won", x.playerOf(p, 3), 0);
        }
        Counted passed = Games.acted("d468p01rp08lp14rp20rp23rp24rwwwwwwwwsss");
        passed.deal(4, 68);
        Check.due("about(8) behind deal()", passed.about(8), 0);
        for (int players : new int[] {1, 5, 0, -1, MIN, MAX}) {
            Check.argument("deal(" + players + ")", () -> x.deal(players, 0));
        }
        Check.due("rounds behind deal() that throws", x.about(0), 2);
        Check.due("undo() behind deal() that throws", x.undo(), 4);
    }

    private static void promise13PlayTellsWhyNot() {
        Counted x = Games.acted("d311p11r");
        Check.due("play() of a tile that 0 has", x.play(7, false), 1);
        Check.due("play() of a tile on the table", x.play(11, false), 1);
        Check.due("play() of a tile in the heap", x.play(25, false), 1);
        Check.due("play() of a tile that does not fit", x.play(2, false), 2);
        Check.due("it is still the turn", x.about(3), 1);
        Check.due("play() of a tile that fits", x.play(20, false), 0);
        Check.due("the turn of the next", x.about(3), 2);
        Check.due("refused so far", x.about(10), 4);
        Counted covered = Games.acted(Games.COVERED);
        Check.due("play() on a covered cell", covered.play(9, false), 3);
        Check.due("play() that does not fit either", covered.play(14, false), 2);
        Check.due("play() that another one has", covered.play(8, false), 1);
        Counted edge = Games.acted(Games.AT_THE_EDGE);
        Check.due("play() off the table", edge.play(13, false), 3);
        Check.due("play() off the table, refused", edge.about(10), 1);
        Check.due("the tiles on the table", edge.about(5), 6);
        for (int t : new int[] {-1, 28, MIN, MAX}) {
            Check.index("play(" + t + ")", () -> x.play(t, true));
            Check.index("play(" + t + ") without a round", () -> new Counted().play(t, true));
        }
        Check.state("play() without a round", () -> new Counted().play(0, true));
        Check.state("play() when the round is over", () -> Games.acted(Games.WON).play(2, true));
        Check.state("play() when it is blocked", () -> Games.acted(Games.BLOCKED).play(2, true));
    }

    private static void direction(String game, int want) {
        Check.due(game + ": direction", Games.acted(game).about(7), want);
    }

    private static void promise13DoublesTurn() {
        direction("d311p11l", 0);
        direction("d311p11r", 0);
        direction("d311p07r", 1);
        direction("d311p07l", 3);
        direction("d430p20lp05rp00r", 1);
        direction("d430p20lp05rp00l", 3);
        direction("d430p20lp05rp00rp06rp27r", 2);
        direction("d430p20lp05rp00rp06rp27l", 0);
        direction("d430p20lp05rp00rp06rp27rp17lp13r", 3);
        direction("d430p20lp05rp00rp06rp27rp17lp13l", 1);
        direction("d430p20lp05rp00lp06rp27lp17lp13l", 1);
        direction("d430p20lp05rp00lp06rp27rp17lp13l", 3);
    }

    private static void promise13LastTileWins() {
        Counted x = Games.acted(Games.WON.substring(0, Games.WON.length() - 4));
        Check.due("the round is played", x.about(1), 1);
        Check.due("play() of the last tile", x.play(8, false), 0);
        Check.due("the round is over", x.about(1), 2);
        Check.due("the score of the winner", x.playerOf(0, 2), 9);
        Check.due("the score of the other", x.playerOf(1, 2), 0);
        Check.due("rounds won", x.playerOf(0, 3), 1);
        Check.due("no turn", x.about(3), -1);
        Games.act(x, "d458");
        Check.due("scores are kept", x.playerOf(0, 2), 9);
    }

    private static void promise14Draw() {
        Counted x = Games.acted("d311");
        int[] heap = {24, 3, 25, 27, 0, 6, 19, 18, 22, 8, 15, 4, 16};
        for (int k = 0; k < heap.length; k++) {
            Check.due("draw()", x.draw(), heap[k]);
            Check.due("about(4) behind draw()", x.about(4), 12 - k);
            Check.due("the holder behind draw()", x.tileOf(heap[k], 2), 0);
            Check.due("the turn behind draw()", x.about(3), 0);
        }
        Check.state("draw() from no heap", () -> x.draw());
        Check.due("playerOf(0, 0) behind 13 draws", x.playerOf(0, 0), 18);
        Check.state("draw() without a round", () -> new Counted().draw());
        Check.state("draw() when the round is over", () -> Games.acted(Games.WON).draw());
        Counted next = Games.acted("d311p11r");
        next.draw();
        Check.due("the holder is the player whose turn it is", next.tileOf(24, 2), 1);
    }

    private static void promise15Pass() {
        Counted x = Games.acted("d468p01rp08lp14rp20rp23rp24rwwwwwwwwsss");
        Check.due("three passes", x.about(8), 3);
        Check.due("the turn", x.about(3), 1);
        Check.due("the last pass", x.pass(), 2);
        Check.due("about(8) when the round is over", x.about(8), 4);
        Check.due("the score of the lowest with the fewest pips", x.playerOf(0, 2), 100);
        Check.due("the score of another one with so many", x.playerOf(1, 2), 0);
        Check.due("rounds won", x.playerOf(0, 3), 1);
        Check.state("pass() when the round is over", () -> x.pass());
        Check.state("pass() without a round", () -> new Counted().pass());
        Counted heap = Games.acted("d311wwwwwwwwwwww");
        Check.state("pass() with one tile in the heap", () -> heap.pass());
        heap.draw();
        Check.due("pass()", heap.pass(), 1);
        Check.due("the turn behind pass()", heap.about(3), 1);
        Check.due("pass()", heap.pass(), 1);
        Check.due("the passes", heap.about(8), 2);
        Check.due("a tile laid between", heap.play(5, false), 0);
        Check.due("the passes behind a tile", heap.about(8), 0);
        Check.due("pass()", heap.pass(), 1);
        Check.due("pass()", heap.pass(), 1);
        Check.due("the turn behind the last player", heap.about(3), 2);
        Check.due("pass()", heap.pass(), 2);
        // 1 has 26 pips, 2 has 28 less 5, and 0 has 32 and those of the heap.
        Check.due("the winner has the fewest pips", heap.playerOf(2, 3), 1);
        Check.due("the score", heap.playerOf(2, 2), 168 - 5 - 2 * 23);
    }

    private static void promise15BlockedAndWonByAnother() {
        // 0 has 44 pips, 1 has 22, 2 has 46, and 3 has 28.
        Counted x = Games.acted("d441p11lp05lp06lp12lwwwwp01lp03rwwwwssss");
        Check.due("the round is over", x.about(1), 2);
        Check.due("the score of 1", x.playerOf(1, 2), 44 + 22 + 46 + 28 - 2 * 22);
        Check.due("rounds won by 1", x.playerOf(1, 3), 1);
        Check.due("the score of 0", x.playerOf(0, 2), 0);
    }

    private static void promise16Undo() {
        String[] commands = {"d311", "p07l", "w", "p12r", "w", "w", "d258", "w", "p02r", "w"};
        String all = String.join("", commands);
        String some = "";
        for (int left = 0; left <= commands.length; left++) {
            Counted x = Games.acted(all);
            x.play(27, true);
            for (int k = commands.length; k >= left; k--) {
                Check.due("undo()", x.undo(), k);
            }
            Check.same("undo() down to " + left, Games.view(x), Games.view(Games.acted(some)));
            some += left < commands.length ? commands[left] : "";
        }
    }

    private static void promise16UndoForgetsTheOldest() {
        for (int left = 13; left >= 0; left--) {
            Counted x = dealtOften(40);
            for (int k = 13; k >= left; k--) {
                Check.due("undo() of 40 actions", x.undo(), k);
            }
            Check.same("undo() down to " + left + " of 14", Games.view(x), Games.view(dealtOften(26 + left)));
        }
        Counted x = dealtOften(40);
        for (int k = 0; k < 14; k++) {
            x.undo();
        }
        Check.state("undo() of the 15th", () -> x.undo());
        x.deal(2, 1);
        Check.due("undo() behind a new action", x.undo(), 0);
        Check.same("undo() behind a new action", Games.view(x), Games.view(dealtOften(26)));
    }

    private static Counted dealtOften(int times) {
        Counted x = new Counted();
        for (int k = 0; k < times; k++) {
            x.deal(2 + k % 3, k);
        }
        return x;
    }

    private static void promise16WhatIsRemembered() {
        Counted x = Games.acted("d311");
        Check.due("play() refused", x.play(0, true), 1);
        Check.due("undo() of a refused play()", x.undo(), 1);
        Check.due("refused behind undo()", x.about(10), 0);
        x.save(0);
        x.why(0);
        x.simulate(1, 20);
        x.runScript(2, 13113000);
        Check.state("pass()", () -> x.pass());
        Check.argument("deal(5)", () -> x.deal(5, 1));
        Check.index("play(28)", () -> x.play(28, true));
        Check.due("undo() passes over what is no action", x.undo(), 0);
        Check.same("undo() of deal()", Games.view(x), Games.view(new Counted()));
        Check.due("undo() keeps the save slots", x.restore(0), 1);
        Counted won = Games.acted(Games.WON);
        won.undo();
        Check.due("the score behind undo()", won.playerOf(0, 2), 0);
        Check.due("rounds won behind undo()", won.playerOf(0, 3), 0);
        Games.act(won, "p08r");
        Check.same("the last action again", Games.view(won), Games.view(Games.acted(Games.WON)));
    }

    private static void promise16UndoOfPassAndOfAChain() {
        String untilThree = Games.BLOCKED.substring(0, Games.BLOCKED.length() - 1);
        Counted x = Games.acted(untilThree);
        x.pass();
        Check.due("undo() of pass()", x.undo(), 13);
        Check.same("undo() of pass()", Games.view(x), Games.view(Games.acted(untilThree)));
        x.undo();
        Check.due("about(8) behind undo() of pass()", x.about(8), 2);
        Counted turned = Games.acted(Games.COVERED);
        Games.act(turned, "d311d311d311p13lp02lp05r");
        for (int k = 0; k < 6; k++) {
            turned.undo();
        }
        Check.same("undo() of another chain", Games.view(turned), Games.view(Games.acted(Games.COVERED)));
    }

    private static void promise16KeepsTheText() {
        Counted x = Games.acted("d311w");
        Games.write(x, "Nd");
        x.undo();
        Check.due("the text behind undo()", x.clearText(), 2);
    }

    public static void main(String[] args) {
        promise12Deal();
        promise12WhoseTurnItIs();
        promise12DealEndsTheRoundOfBefore();
        promise13PlayTellsWhyNot();
        promise13DoublesTurn();
        promise13LastTileWins();
        promise14Draw();
        promise15Pass();
        promise15BlockedAndWonByAnother();
        promise16Undo();
        promise16UndoForgetsTheOldest();
        promise16WhatIsRemembered();
        promise16UndoOfPassAndOfAChain();
        promise16KeepsTheText();
        Check.end();
    }
}
