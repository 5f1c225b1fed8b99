/** The edges that the document names in promises 12 to 16, "A round" and "Actions and undo": above each its sentence. */
public final class ActionEdgesTest {
    private static final int MIN = Integer.MIN_VALUE;
    private static final int MAX = Integer.MAX_VALUE;
    private static final String HEAP_OF_8 = "w".repeat(8);
    private static final String HEAP_OF_13 = "w".repeat(13);
    private static final String HEAP_OF_18 = "w".repeat(18);
    /** The player 1 has the tile 0 alone, and it is the turn; 0 has all others, but for the six on the table. */
    private static final String ONE_WITHOUT_PIPS = "d297" + HEAP_OF_18 + "p26rp24rsp04rsp06rsp17rp16r";

    private ActionEdgesTest() {
    }

    // ---- promise 12

    // "Throws IllegalArgumentException if players is out of range"
    private static void dealToTooFewOrTooMany() {
        for (String game : new String[] {"", "d311", Games.WON}) {
            for (int players : new int[] {1, 5, 0, -1, MIN, MAX}) {
                Check.argument(game + ": deal(" + players + ")", () -> Games.acted(game).deal(players, 1));
            }
        }
    }

    // "players: 2 to 4"
    private static void dealToTheFewestAndTheMost() {
        for (int players = 2; players <= 4; players++) {
            Counted x = new Counted();
            Check.due("deal(" + players + ")", x.deal(players, 1), 1);
            Check.due("the heap behind deal(" + players + ")", x.about(4), 28 - 5 * players);
            Check.due("the tiles of the last player", x.playerOf(players - 1, 0), 5);
        }
    }

    private static void row(long seed, int... want) {
        Counted x = new Counted();
        x.deal(4, seed);
        for (int i = 0; i < 28; i++) {
            Check.due("seed " + seed + ": tileOf(" + want[i] + ", 2)", x.tileOf(want[i], 2), i < 20 ? i / 5 : -1);
            Check.due("seed " + seed + ": tileOf(" + want[i] + ", 4)", x.tileOf(want[i], 4), i < 20 ? -1 : i - 20);
        }
    }

    // "seed: any long", "(with long overflow)"
    private static void theSeedsThatOverflow() {
        row(Long.MAX_VALUE, 21, 22, 16, 14, 20, 3, 12, 11, 23, 10, 19, 17, 6, 18, 9, 0, 25, 24, 2, 27, 7, 15, 26, 8, 1, 5,
            13, 4);
        row(Long.MIN_VALUE, 20, 26, 11, 7, 23, 25, 1, 12, 19, 22, 17, 18, 24, 2, 14, 6, 13, 15, 9, 8, 0, 16, 5, 21, 10,
            27, 4, 3);
        row(-1, 24, 14, 4, 7, 6, 25, 22, 1, 15, 20, 3, 27, 21, 10, 18, 19, 9, 11, 13, 23, 8, 26, 16, 0, 2, 17, 5, 12);
        row(0, 22, 19, 16, 27, 3, 9, 2, 25, 13, 26, 18, 1, 24, 14, 10, 6, 0, 7, 17, 21, 20, 4, 8, 5, 11, 15, 12, 23);
        row(1L << 33, 21, 24, 6, 27, 5, 8, 9, 13, 0, 4, 20, 23, 11, 26, 14, 3, 19, 18, 16, 1, 7, 17, 15, 25, 10, 2, 22,
            12);
    }

    // "Deals, whatever there is of the round so far (which scores nothing then, if it is not over)"
    private static void dealInARoundThatIsPlayed() {
        Counted x = Games.acted(Games.COVERED);
        Check.due("deal() in a round", x.deal(3, 11), 2);
        for (int p = 0; p < 4; p++) {
            Check.due("the score of " + p, x.playerOf(p, 2), 0);
            Check.due("the rounds won by " + p, x.playerOf(p, 3), 0);
        }
        Check.due("the tiles on the table", x.about(5), 0);
        Check.due("the direction", x.about(7), 0);
        Check.due("the cell of before", x.at(13, 16), -1);
        Check.due("the players", x.about(2), 3);
    }

    private static void dealBehindARoundThatIsOver() {
        for (String over : new String[] {Games.WON, Games.BLOCKED}) {
            Counted x = Games.acted(over);
            int score = x.playerOf(0, 2);
            Check.due("deal() behind " + over, x.deal(3, 11), 2);
            Check.due("the score behind deal()", x.playerOf(0, 2), score);
            Check.due("a round is played", x.about(1), 1);
            Check.due("the passes", x.about(8), 0);
        }
    }

    // "it is the turn of the player (the rounds so far, without this one) modulo the players"
    private static void theFirstTurnOfManyRounds() {
        for (int players = 2; players <= 4; players++) {
            Counted x = new Counted();
            for (int k = 0; k < 13; k++) {
                x.deal(players, k);
                Check.due("the turn of the round " + k + " of " + players, x.about(3), k % players);
            }
        }
    }

    // "An object is used for at most 512 calls after it has been made"
    private static void theLastOf512Calls() {
        Counted x = new Counted();
        for (int k = 1; k <= 510; k++) {
            Check.due("deal() as call " + k, x.deal(2 + k % 3, k), k);
        }
        Check.due("undo() as call 511", x.undo(), 13);
        Check.due("about(0) as call 512", x.about(0), 509);
    }

    // ---- promise 13

    // "Throws IndexOutOfBoundsException if there is no such tile"
    private static void playOfNoTile() {
        for (String game : new String[] {"d311", "d311p11r"}) {
            for (int t : new int[] {-1, 28, MIN, MAX}) {
                Check.index(game + ": play(" + t + ")", () -> Games.acted(game).play(t, false));
            }
        }
    }

    // "Throws IllegalStateException if no round is played"
    private static void playWithoutARound() {
        for (String game : new String[] {"", Games.WON, Games.BLOCKED}) {
            for (int t : new int[] {0, 2, 27}) {
                Check.state(game + ": play(" + t + ")", () -> Games.acted(game).play(t, false));
            }
        }
    }

    // "If several exceptions apply to a call, the one that its description names first is thrown."
    private static void playOfNoTileWithoutARound() {
        for (String game : new String[] {"", Games.WON, Games.BLOCKED}) {
            Check.index(game + ": play(-1)", () -> Games.acted(game).play(-1, false));
            Check.index(game + ": play(28)", () -> Games.acted(game).play(28, false));
        }
    }

    private static void refuses(String game, int t, int reason) {
        Counted x = Games.acted(game);
        int tiles = x.about(5);
        int turn = x.about(3);
        Check.due(game + ": play(" + t + ")", x.play(t, false), reason);
        Check.due(game + ": the tiles on the table", x.about(5), tiles);
        Check.due(game + ": the turn", x.about(3), turn);
        Check.due(game + ": refused", x.about(10), 1);
    }

    // "1: the player whose turn it is does not have it"
    private static void theReason1() {
        refuses("d311", 2, 1);
        refuses("d311", 24, 1);
        refuses("d311p11r", 11, 1);
        refuses("d311p11r", 7, 1);
        refuses("d211", 0, 1);
        refuses("d211", 27, 1);
    }

    // "2: it does not fit"
    private static void theReason2() {
        refuses("d311p11r", 2, 2);
        refuses("d233p27r", 20, 2);
        refuses("d489p00r", 9, 2);
    }

    // "3: one of its cells is not on the table": the second one at the east and the west, both at the south and the north
    private static void theReason3AtTheEdges() {
        refuses(Games.AT_THE_EDGE, 15, 3);
        refuses(Games.AT_THE_WEST, 24, 3);
        refuses(Games.AT_THE_SOUTH, 16, 3);
        refuses(Games.AT_THE_NORTH, 16, 3);
    }

    // "3: one of its cells is .. covered"
    private static void theReason3OnCoveredCells() {
        refuses(Games.COVERED, 9, 3);
        refuses(Games.BOTH_COVERED, 4, 3);
    }

    // "for the first of these reasons that is so"
    private static void theFirstReasonOfSeveral() {
        refuses("d311p11r", 13, 1);
        refuses(Games.AT_THE_EDGE, 4, 1);
        refuses(Games.AT_THE_EDGE, 2, 1);
        refuses(Games.AT_THE_EDGE, 23, 2);
        refuses(Games.COVERED, 14, 2);
        refuses(Games.COVERED, 7, 1);
        refuses(Games.BOTH_COVERED, 25, 2);
    }

    // "A tile fits if there is no tile on the table, or one of its halves is the end"
    private static void whatFits() {
        Check.due("any tile on the bare table", Games.acted("d311").play(26, false), 0);
        Check.due("the lesser half is the end", Games.acted("d311p07r").play(12, false), 0);
        Check.due("the greater half is the end", Games.acted("d311p11r").play(20, false), 0);
        Check.due("both halves are the end", Games.acted("d430p20lp05r").play(0, false), 0);
        Check.due("the end of 0", Games.acted("d489p00r").play(1, false), 0);
    }

    // The last cells of the table can be covered.
    private static void upToTheEdges() {
        Check.due("up to the row 24", Games.acted("d275p25rp05rp03rp21rp17rp08r").play(11, false), 0);
        Check.due("up to the row 0", Games.acted("d275p25lp05rp03rp21rp17rp08r").play(11, false), 0);
        Check.due("up to the column 23", Games.acted("d465p10rp19rp09rp01rp06r").play(17, false), 0);
        Check.due("up to the column 1", Games.acted("d489p00rp01rp07rp12rp26rp05rp02rp08r").play(10, false), 0);
    }

    private static void turns(String game, int t, int toTheRight, int toTheLeft) {
        Counted right = Games.acted(game);
        right.play(t, false);
        Check.due(game + ": the direction to the right", right.about(7), toTheRight);
        Counted left = Games.acted(game);
        left.play(t, true);
        Check.due(game + ": the direction to the left", left.about(7), toTheLeft);
    }

    // "to the right (from 0 to 1, from 1 to 2, from 2 to 3, from 3 to 0), or to the left"
    private static void theEightTurns() {
        turns("d489p00rp01r", 7, 2, 0);
        turns("d430p20lp05rp00rp06rp27rp17r", 13, 3, 1);
        turns("d489p00lp01r", 7, 0, 2);
        turns("d430p20lp05r", 0, 1, 3);
    }

    // "When a double was laid (also as the first tile), the direction turns"
    private static void theFirstTileIsADouble() {
        turns("d311", 7, 1, 3);
        turns("d489", 0, 1, 3);
        turns("d233", 27, 1, 3);
    }

    // "if it is a double (otherwise this does not matter)"
    private static void noDoubleNoTurn() {
        turns("d311", 11, 0, 0);
        turns("d489p00r", 1, 1, 1);
        turns("d489p00l", 1, 3, 3);
        turns("d489p00rp01rp07r", 12, 2, 2);
        Check.same("a tile to the left that is no double", Games.view(Games.acted("d311p11l")),
            Games.view(Games.acted("d311p11r")));
    }

    // "If it is laid, it is the turn of the next player (behind the last one comes 0)."
    private static void theTurnBehindTheLastPlayer() {
        Check.due("two players", Games.acted("d275p25rp05r").about(3), 0);
        Check.due("three players", Games.acted("d311p11rp20rp14r").about(3), 0);
        Check.due("four players, behind the third", Games.acted("d465p10rp19rp09r").about(3), 3);
        Check.due("four players, behind the fourth", Games.acted("d465p10rp19rp09rp01r").about(3), 0);
    }

    // "A round is over when a player has no tile any more: this player scores the pips of all hands"
    private static void theLastTileOfAHand() {
        Counted x = Games.acted(Games.WON.substring(0, Games.WON.length() - 4));
        Check.due("the tiles of 0", x.playerOf(0, 0), 1);
        Check.due("play() of the last tile", x.play(8, false), 0);
        Check.due("the round is over", x.about(1), 2);
        Check.due("the score", x.playerOf(0, 2), 9);
        Check.due("rounds won", x.playerOf(0, 3), 1);
        Check.due("the score of the other", x.playerOf(1, 2), 0);
        Check.due("no turn", x.about(3), -1);
    }

    // "Each call of one of them that does not throw an exception is an action"
    private static void aRefusedPlayIsAnAction() {
        Counted x = Games.acted("d311");
        x.play(0, false);
        x.play(0, false);
        Check.due("undo() of the second refused play()", x.undo(), 2);
        Check.due("refused", x.about(10), 1);
        Check.due("undo() of the first", x.undo(), 1);
        Check.due("refused", x.about(10), 0);
        Check.due("the round is still there", x.about(0), 1);
    }

    // ---- promise 14

    // "Throws IllegalStateException if no round is played, or the heap is empty"
    private static void drawWithoutARound() {
        for (String game : new String[] {"", Games.WON, Games.BLOCKED}) {
            Check.state(game + ": draw()", () -> Games.acted(game).draw());
        }
    }

    private static void drawFromAnEmptyHeap() {
        Check.state("two players", () -> Games.acted("d211" + HEAP_OF_18).draw());
        Check.state("three players", () -> Games.acted("d311" + HEAP_OF_13).draw());
        Check.state("four players", () -> Games.acted("d411" + HEAP_OF_8).draw());
        Check.state("behind a pass", () -> Games.acted("d411" + HEAP_OF_8 + "s").draw());
    }

    private static void drawOfTheLastTile() {
        Check.due("two players", Games.acted("d211" + HEAP_OF_18.substring(1)).draw(), 16);
        Check.due("three players", Games.acted("d311" + HEAP_OF_13.substring(1)).draw(), 16);
        Check.due("four players", Games.acted("d411" + HEAP_OF_8.substring(1)).draw(), 16);
    }

    // "A player can draw a tile, if there are any, and goes on"
    private static void drawAndGoOn() {
        Counted x = Games.acted("d311p11r");
        Check.due("draw()", x.draw(), 24);
        Check.due("the turn", x.about(3), 1);
        Check.due("draw() again", x.draw(), 3);
        Check.due("the turn", x.about(3), 1);
        Check.due("the tiles of 1", x.playerOf(1, 0), 7);
        Check.due("the tiles of 0", x.playerOf(0, 0), 4);
    }

    // A tile can also be drawn if one can be laid.
    private static void drawThoughATileCanBeLaid() {
        Check.due("draw() on the bare table", Games.acted("d311").draw(), 24);
    }

    // ---- promise 15

    // "Throws IllegalStateException if no round is played, or the heap is not empty"
    private static void passWithoutARound() {
        for (String game : new String[] {"", Games.WON, Games.BLOCKED}) {
            Check.state(game + ": pass()", () -> Games.acted(game).pass());
        }
    }

    private static void passWithAHeap() {
        Check.state("with a full heap", () -> Games.acted("d311").pass());
        Check.state("with one tile, two players", () -> Games.acted("d211" + HEAP_OF_18.substring(1)).pass());
        Check.state("with one tile, three players", () -> Games.acted("d311" + HEAP_OF_13.substring(1)).pass());
        Check.state("with one tile, four players", () -> Games.acted("d411" + HEAP_OF_8.substring(1)).pass());
    }

    // "Returns 1 if the round goes on, 2 if it is over."
    private static void asManyPassesAsPlayers() {
        String[] games = {"d211" + HEAP_OF_18, "d311" + HEAP_OF_13, "d411" + HEAP_OF_8};
        for (int players = 2; players <= 4; players++) {
            Counted x = Games.acted(games[players - 2]);
            for (int k = 1; k < players; k++) {
                Check.due("pass() as number " + k + " of " + players, x.pass(), 1);
                Check.due("the turn behind it", x.about(3), k);
                Check.due("the round goes on", x.about(1), 1);
            }
            Check.due("pass() as number " + players, x.pass(), 2);
            Check.due("the round is over", x.about(1), 2);
            Check.due("the passes", x.about(8), players);
        }
    }

    // "or pass, if the heap is empty: then it is the turn of the next one"
    private static void theTurnBehindThePassOfTheLastPlayer() {
        Counted x = Games.acted("d311p11r" + HEAP_OF_13);
        x.pass();
        Check.due("behind the player 1", x.about(3), 2);
        x.pass();
        Check.due("behind the player 2", x.about(3), 0);
    }

    // "without a tile laid or drawn between"
    private static void aTileBetweenThePasses() {
        Counted x = Games.acted("d311" + HEAP_OF_13 + "ssp14r");
        Check.due("the passes behind a tile", x.about(8), 0);
        Check.due("pass()", x.pass(), 1);
        Check.due("pass()", x.pass(), 1);
        Check.due("pass()", x.pass(), 2);
    }

    private static void aRefusedPlayBetweenThePasses() {
        Counted x = Games.acted("d311" + HEAP_OF_13 + "ss");
        Check.due("play() refused", x.play(7, false), 1);
        Check.due("the passes", x.about(8), 2);
        Check.due("pass()", x.pass(), 2);
    }

    private static void scores(String game, int... want) {
        Counted x = Games.acted(game);
        Check.due(game + ": the round is over", x.about(1), 2);
        int winner = -1;
        for (int p = 0; p < 4; p++) {
            Check.due(game + ": the score of " + p, x.playerOf(p, 2), want[p]);
            winner = want[p] != 0 ? p : winner;
        }
        for (int p = 0; p < 4; p++) {
            Check.due(game + ": the rounds won by " + p, x.playerOf(p, 3), p == winner ? 1 : 0);
        }
    }

    // "then the player with the fewest pips in the hand .. scores the pips of all hands less twice the own ones"
    private static void theFewestPips() {
        scores("d211" + HEAP_OF_18 + "ss", 0, 168 - 2 * 26, 0, 0);
        scores("d311" + HEAP_OF_13 + "sss", 0, 168 - 2 * 26, 0, 0);
        scores("d405" + HEAP_OF_8 + "ssss", 0, 0, 0, 168 - 2 * 26);
        scores("d311p11r" + HEAP_OF_13 + "sss", 162 - 2 * 26, 0, 0, 0);
    }

    // "of several the lowest"
    private static void theLowestOfSeveralPlayers() {
        scores("d345" + HEAP_OF_13 + "sss", 0, 168 - 2 * 26, 0, 0);
        scores("d436" + HEAP_OF_8 + "ssss", 0, 0, 168 - 2 * 26, 0);
        scores(Games.BLOCKED, 132 - 2 * 16, 0, 0, 0);
    }

    private static void noPipsAtAll() {
        scores(ONE_WITHOUT_PIPS + "ss", 0, 122, 0, 0);
        Counted x = Games.acted(ONE_WITHOUT_PIPS);
        Check.due("a tile without pips is a tile", x.playerOf(1, 0), 1);
        Check.due("the round goes on", x.about(1), 1);
    }

    // ---- promise 16

    // "Throws IllegalStateException if none is remembered"
    private static void undoOfNothing() {
        Check.state("undo() of a new object", () -> new Counted().undo());
        Counted x = Games.acted("d311");
        Check.due("undo() of one action", x.undo(), 0);
        Check.state("undo() again", () -> x.undo());
        Check.state("undo() once more", () -> x.undo());
    }

    // "At most 14 states are remembered"
    private static void undoOf14() {
        Counted x = Games.acted("d311" + HEAP_OF_13);
        for (int left = 13; left >= 0; left--) {
            Check.due("undo() of 14 actions", x.undo(), left);
            Check.due("the heap behind it", x.about(4), left > 0 ? 14 - left : 0);
        }
        Check.due("the rounds", x.about(0), 0);
        Check.state("undo() of a 15th", () -> x.undo());
    }

    // "when one more is remembered, the oldest one is forgotten"
    private static void undoOf15() {
        Counted x = Games.acted("d311" + HEAP_OF_13 + "s");
        for (int left = 13; left >= 0; left--) {
            Check.due("undo() of 15 actions", x.undo(), left);
        }
        Check.state("undo() of the first", () -> x.undo());
        Check.same("the state behind the first of 15 actions", Games.view(x), Games.view(Games.acted("d311")));
    }

    private static void undoBehindManyMore() {
        Counted x = new Counted();
        for (int k = 0; k < 100; k++) {
            x.deal(2, k);
        }
        for (int left = 13; left >= 0; left--) {
            Check.due("undo() of 100 actions", x.undo(), left);
            Check.due("the rounds behind it", x.about(0), 86 + left);
        }
        Check.state("undo() of the 15th last", () -> x.undo());
    }

    // "(undo is none)"
    private static void undoIsNoAction() {
        Counted x = Games.acted("d311wwww");
        Check.due("undo()", x.undo(), 4);
        Check.due("undo()", x.undo(), 3);
        x.deal(2, 1);
        Check.due("undo() of a new action", x.undo(), 3);
        Check.same("behind it", Games.view(x), Games.view(Games.acted("d311ww")));
    }

    // "load and restore are not actions."
    private static void loadAndRestoreAreNoActions() {
        Counted x = Games.written("Nd311w");
        x.load();
        Check.state("undo() behind load()", () -> x.undo());
        x.save(0);
        x.restore(0);
        Check.state("undo() behind restore()", () -> x.undo());
    }

    // "The methods in the section "actions" change the state"
    private static void whatElseIsNoAction() {
        Counted x = Games.acted("d311w");
        x.append('N');
        x.clearText();
        x.errorPosition();
        x.save(0);
        x.runScript(1, 3000);
        x.simulate(1, 9);
        x.legal();
        x.best();
        x.why(0);
        x.chain(0, 6);
        x.reach(0);
        x.free(0);
        Check.due("undo() behind all that is no action", x.undo(), 1);
        Check.same("behind it", Games.view(x), Games.view(Games.acted("d311")));
    }

    // "Each call .. that does not throw an exception is an action"
    private static void whatThrowsIsNoAction() {
        Counted x = Games.acted("d311w");
        Check.argument("deal(1)", () -> x.deal(1, 1));
        Check.argument("deal(5)", () -> x.deal(5, 1));
        Check.index("play(28)", () -> x.play(28, false));
        Check.state("pass()", () -> x.pass());
        Check.due("undo() behind exceptions", x.undo(), 1);
        Counted over = Games.acted(Games.WON);
        Check.state("play()", () -> over.play(2, false));
        Check.state("draw()", () -> over.draw());
        Check.due("undo() behind exceptions of a round that is over", over.undo(), 10);
    }

    // "which consists of everything but the text and the save slots"
    private static void undoKeepsTheTextAndTheSlots() {
        Counted x = Games.acted("d311");
        x.draw();
        Games.write(x, "Nd");
        x.save(0);
        x.undo();
        Check.due("the text", x.clearText(), 2);
        x.undo();
        Check.due("restore(0)", x.restore(0), 1);
        Check.same("the saved state", Games.view(x), Games.view(Games.acted("d311w")));
    }

    // "Takes back the last action that is remembered."
    private static void undoOfEachAction() {
        String[] games = {"d311", Games.COVERED, Games.WON, Games.BLOCKED, Games.WON + "d311", ONE_WITHOUT_PIPS + "s",
            "d311w"};
        String[] before = {"", Games.COVERED.substring(0, Games.COVERED.length() - 4),
            Games.WON.substring(0, Games.WON.length() - 4), Games.BLOCKED.substring(0, Games.BLOCKED.length() - 1),
            Games.WON, ONE_WITHOUT_PIPS, "d311"};
        for (int i = 0; i < games.length; i++) {
            Counted x = Games.acted(games[i]);
            x.undo();
            Check.same("undo() of " + games[i], Games.view(x), Games.view(Games.acted(before[i])));
        }
    }

    public static void main(String[] args) {
        dealToTooFewOrTooMany();
        dealToTheFewestAndTheMost();
        theSeedsThatOverflow();
        dealInARoundThatIsPlayed();
        dealBehindARoundThatIsOver();
        theFirstTurnOfManyRounds();
        theLastOf512Calls();
        playOfNoTile();
        playWithoutARound();
        playOfNoTileWithoutARound();
        theReason1();
        theReason2();
        theReason3AtTheEdges();
        theReason3OnCoveredCells();
        theFirstReasonOfSeveral();
        whatFits();
        upToTheEdges();
        theEightTurns();
        theFirstTileIsADouble();
        noDoubleNoTurn();
        theTurnBehindTheLastPlayer();
        theLastTileOfAHand();
        aRefusedPlayIsAnAction();
        drawWithoutARound();
        drawFromAnEmptyHeap();
        drawOfTheLastTile();
        drawAndGoOn();
        drawThoughATileCanBeLaid();
        passWithoutARound();
        passWithAHeap();
        asManyPassesAsPlayers();
        theTurnBehindThePassOfTheLastPlayer();
        aTileBetweenThePasses();
        aRefusedPlayBetweenThePasses();
        theFewestPips();
        theLowestOfSeveralPlayers();
        noPipsAtAll();
        undoOfNothing();
        undoOf14();
        undoOf15();
        undoBehindManyMore();
        undoIsNoAction();
        loadAndRestoreAreNoActions();
        whatElseIsNoAction();
        whatThrowsIsNoAction();
        undoKeepsTheTextAndTheSlots();
        undoOfEachAction();
        Check.end();
    }
}
