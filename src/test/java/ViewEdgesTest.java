/** The edges that the document names in promises 6 to 11, in "Tiles" and in "The table": above each test its sentence. */
public final class ViewEdgesTest {
    private static final int MIN = Integer.MIN_VALUE;
    private static final int MAX = Integer.MAX_VALUE;
    private static final String HEAP_OF_13 = "w".repeat(13);
    /** The player 3 has the fewest pips of the four. */
    private static final String WON_BY_THE_LAST = "d405wwwwwwwwssss";

    private ViewEdgesTest() {
    }

    // ---- promise 6

    private static void about(int what, String game, int want) {
        Check.due(game + ": about(" + what + ")", Games.acted(game).about(what), want);
    }

    // "Throws IllegalArgumentException if what is not 0 to 11"
    private static void aboutOutOfRange() {
        for (String game : new String[] {"", "d311", Games.WON}) {
            for (int what : new int[] {-1, 12, MIN, MAX}) {
                Check.argument(game + ": about(" + what + ")", () -> Games.acted(game).about(what));
            }
        }
    }

    // "0: the rounds so far"
    private static void theRoundsSoFar() {
        about(0, "", 0);
        about(0, "d311", 1);
        about(0, Games.WON, 1);
        about(0, Games.WON + "d311", 2);
        about(0, "d311d311d311", 3);
    }

    // "1: 0 without a round, 1 if it is played, 2 if it is over"
    private static void whetherARoundIsPlayed() {
        about(1, "", 0);
        about(1, "d311", 1);
        about(1, Games.WON.substring(0, Games.WON.length() - 4), 1);
        about(1, Games.WON, 2);
        about(1, Games.BLOCKED.substring(0, Games.BLOCKED.length() - 1), 1);
        about(1, Games.BLOCKED, 2);
        about(1, Games.BLOCKED + "d311", 1);
    }

    // "2: the players of this round, 0 without one"
    private static void thePlayersOfThisRound() {
        about(2, "", 0);
        about(2, "d200", 2);
        about(2, "d300", 3);
        about(2, "d400", 4);
        about(2, Games.BLOCKED, 4);
        about(2, Games.BLOCKED + "d200", 2);
    }

    // "3: the player whose turn it is, NONE if no round is played"
    private static void thePlayerWhoseTurnItIs() {
        about(3, "", -1);
        about(3, "d311", 0);
        about(3, "d311p11r", 1);
        about(3, Games.WON, -1);
        about(3, Games.BLOCKED, -1);
        about(3, Games.BLOCKED + "d200", 1);
    }

    // "4: the tiles of the heap"
    private static void theTilesOfTheHeap() {
        about(4, "", 0);
        about(4, "d211", 18);
        about(4, "d311", 13);
        about(4, "d411", 8);
        about(4, "d411wwwwwww", 1);
        about(4, "d411wwwwwwww", 0);
        about(4, Games.BLOCKED, 0);
        about(4, Games.WON, 17);
    }

    // "5: those on the table"
    private static void theTilesOnTheTable() {
        about(5, "", 0);
        about(5, "d311", 0);
        about(5, "d311p11r", 1);
        about(5, Games.WON, 9);
        about(5, Games.WON + "d311", 0);
    }

    // "6: the end, NONE without a tile on the table"
    private static void theEnd() {
        about(6, "", -1);
        about(6, "d311", -1);
        about(6, "d233p27r", 6);
        about(6, "d489p00r", 0);
        about(6, Games.WON, 1);
        about(6, Games.WON + "d311", -1);
    }

    // "behind the first tile its greater half; behind each other tile the half that does not lie at the end of before"
    private static void theEndBehindEachTile() {
        about(6, "d311p11r", 5);
        about(6, "d311p11rp20r", 3);
        about(6, "d311p11rp20rp14r", 2);
        about(6, "d311p07r", 1);
        about(6, "d311p13rp02r", 0);
        about(6, "d311p13rp02rp05r", 5);
    }

    // "7: the direction", "The table is empty, the direction is east"
    private static void theDirection() {
        about(7, "", 0);
        about(7, "d311", 0);
        about(7, "d311p07l", 3);
        about(7, "d311p07ld311", 0);
        about(7, Games.WON, 2);
        about(7, Games.WON + "d311", 0);
    }

    // "8: the passes one behind the other just now"
    private static void thePassesJustNow() {
        about(8, "", 0);
        about(8, "d311" + HEAP_OF_13, 0);
        about(8, "d311" + HEAP_OF_13 + "s", 1);
        about(8, "d311" + HEAP_OF_13 + "ss", 2);
        about(8, "d311" + HEAP_OF_13 + "sss", 3);
        about(8, "d311" + HEAP_OF_13 + "ssp14r", 0);
        about(8, "d311" + HEAP_OF_13 + "ssp14rs", 1);
        about(8, "d311" + HEAP_OF_13 + "sssd311", 0);
        about(8, "d311" + HEAP_OF_13 + "ssd311", 0);
    }

    // "9: the pips of all tiles on the table"
    private static void thePipsOnTheTable() {
        about(9, "", 0);
        about(9, "d311", 0);
        about(9, "d489p00r", 0);
        about(9, "d233p27r", 12);
        about(9, "d233p27rwwwp21r", 21);
        about(9, Games.WON + "d311", 0);
    }

    // "10: how often play() was refused so far"
    private static void refusedSoFar() {
        Counted x = Games.acted("d311p11r");
        Check.due("about(10) behind none", x.about(10), 0);
        x.play(7, false);
        Check.due("about(10) behind the reason 1", x.about(10), 1);
        x.play(2, false);
        Check.due("about(10) behind the reason 2", x.about(10), 2);
        x.play(20, false);
        Check.due("about(10) behind a tile that is laid", x.about(10), 2);
        x.deal(2, 1);
        Check.due("about(10) in the next round", x.about(10), 2);
        Counted edge = Games.acted(Games.AT_THE_EDGE);
        edge.play(13, true);
        Check.due("about(10) behind the reason 3", edge.about(10), 1);
    }

    // A play() that throws an exception changes nothing.
    private static void notRefusedButThrown() {
        Counted x = Games.acted(Games.WON);
        Check.state("play() in a round that is over", () -> x.play(2, true));
        Check.index("play(28)", () -> x.play(28, true));
        Check.due("about(10) behind exceptions", x.about(10), 0);
        x.runScript(1, 2028);
        x.deal(2, 11);
        x.runScript(1, 2000);
        x.why(0);
        Check.due("about(10) behind what only asks", x.about(10), 0);
    }

    // "11: the tiles laid so far, in all rounds"
    private static void laidInAllRounds() {
        about(11, "", 0);
        about(11, "d311", 0);
        about(11, "d311p11r", 1);
        about(11, Games.WON, 9);
        about(11, Games.WON + "d311", 9);
        about(11, Games.WON + "d311wp20r", 10);
    }

    // ---- promise 7

    // "Throws IndexOutOfBoundsException if there is no such tile"
    private static void tileOfNoTile() {
        for (String game : new String[] {"", "d311", Games.WON}) {
            for (int t : new int[] {-1, 28, MIN, MAX}) {
                Check.index(game + ": tileOf(" + t + ", 0)", () -> Games.acted(game).tileOf(t, 0));
            }
        }
    }

    // "Throws IllegalArgumentException if what is not 0 to 4"
    private static void tileOfNoNumber() {
        for (int t : new int[] {0, 27}) {
            for (int what : new int[] {-1, 5, MIN, MAX}) {
                Check.argument("tileOf(" + t + ", " + what + ")", () -> new Counted().tileOf(t, what));
            }
        }
    }

    // "If several exceptions apply to a call, the one that its description names first is thrown."
    private static void tileOfNoTileAndNoNumber() {
        Check.index("tileOf(-1, -1)", () -> new Counted().tileOf(-1, -1));
        Check.index("tileOf(28, 5)", () -> new Counted().tileOf(28, 5));
    }

    // "0 is 0 and 0, 1 is 0 and 1, and so on up to 6 is 0 and 6, 7 is 1 and 1, and 27 is 6 and 6"
    private static void theHalvesOfTheTiles() {
        int[][] tiles = {{0, 0, 0}, {1, 0, 1}, {6, 0, 6}, {7, 1, 1}, {12, 1, 6}, {13, 2, 2}, {17, 2, 6}, {18, 3, 3},
            {21, 3, 6}, {22, 4, 4}, {24, 4, 6}, {25, 5, 5}, {26, 5, 6}, {27, 6, 6}};
        for (int[] tile : tiles) {
            Check.due("a of " + tile[0], new Counted().tileOf(tile[0], 0), tile[1]);
            Check.due("b of " + tile[0], new Counted().tileOf(tile[0], 1), tile[2]);
        }
    }

    private static void tile(String game, int t, int what, int want) {
        Check.due(game + ": tileOf(" + t + ", " + what + ")", Games.acted(game).tileOf(t, what), want);
    }

    // "2: the player who has it, NONE if nobody does"
    private static void thePlayerWhoHasATile() {
        tile("", 0, 2, -1);
        tile("d311", 7, 2, 0);
        tile("d311", 23, 2, 2);
        tile("d311", 24, 2, -1);
        tile("d311w", 24, 2, 0);
        tile("d311p11r", 11, 2, -1);
        tile(Games.WON, 16, 2, 1);
        tile(Games.WON, 8, 2, -1);
        tile(Games.BLOCKED, 17, 2, 3);
        tile(Games.BLOCKED + "d311", 27, 2, -1);
    }

    // "3: its place on the table, from 0 for the first one, NONE if it is not there"
    private static void thePlaceOfATileOnTheTable() {
        tile("", 0, 3, -1);
        tile("d311", 11, 3, -1);
        tile("d311p11r", 11, 3, 0);
        tile("d311p11r", 20, 3, -1);
        tile(Games.WON, 9, 3, 0);
        tile(Games.WON, 8, 3, 8);
        tile(Games.WON + "d311", 9, 3, -1);
    }

    // "4: behind how many other tiles of the heap it is drawn, NONE if it is not there"
    private static void thePlaceOfATileInTheHeap() {
        tile("", 24, 4, -1);
        tile("d311", 24, 4, 0);
        tile("d311", 16, 4, 12);
        tile("d311", 7, 4, -1);
        tile("d311w", 24, 4, -1);
        tile("d311w", 3, 4, 0);
        tile("d311w", 16, 4, 11);
        tile("d311wwwwwwwwwwww", 16, 4, 0);
        tile("d311" + HEAP_OF_13, 16, 4, -1);
        tile(Games.WON, 23, 4, 0);
        tile(Games.WON, 17, 4, 16);
        tile(Games.WON, 18, 4, -1);
    }

    // ---- promise 8

    // "Throws IndexOutOfBoundsException if there are not so many"
    private static void laidNotSoMany() {
        String[] games = {"", "d311", "d311p11r", Games.WON, Games.WON + "d311"};
        int[] many = {0, 0, 1, 9, 0};
        for (int i = 0; i < games.length; i++) {
            String game = games[i];
            for (int k : new int[] {-1, many[i], MIN, MAX}) {
                Check.index(game + ": laid(" + k + ", 0)", () -> Games.acted(game).laid(k, 0));
            }
        }
        Check.due("laid(0, 0) of one", Games.acted("d311p11r").laid(0, 0), 11);
        Check.due("laid(8, 0) of nine", Games.acted(Games.WON).laid(8, 0), 8);
    }

    // "Throws IllegalArgumentException if what is not 0 to 5"
    private static void laidNoNumber() {
        for (int what : new int[] {-1, 6, MIN, MAX}) {
            Check.argument("laid(0, " + what + ")", () -> Games.acted("d311p11r").laid(0, what));
        }
    }

    // "If several exceptions apply to a call, the one that its description names first is thrown."
    private static void laidNotSoManyAndNoNumber() {
        Check.index("laid(0, 6)", () -> new Counted().laid(0, 6));
        Check.index("laid(-1, -1)", () -> Games.acted("d311p11r").laid(-1, -1));
        Check.index("laid(1, 6)", () -> Games.acted("d311p11r").laid(1, 6));
    }

    private static void lies(String game, int k, int... want) {
        for (int what = 0; what < 6; what++) {
            Check.due(game + ": laid(" + k + ", " + what + ")", Games.acted(game).laid(k, what), want[what]);
        }
    }

    // "the first tile of a round the cells (12, 12) and (13, 12), to the east", "of the first tile the lesser one"
    private static void theFirstTile() {
        lies("d311p11r", 0, 11, 12, 12, 0, 1, 5);
        lies("d311p07l", 0, 7, 12, 12, 0, 1, 1);
        lies("d311p11rd311p20r", 0, 20, 12, 12, 0, 3, 5);
    }

    // "each other one the next two cells behind the second cell of the tile laid ahead of it", in each direction
    private static void theTilesBehindIt() {
        lies("d311p11rp20r", 1, 20, 14, 12, 0, 5, 3);
        lies("d311p13rp02r", 1, 2, 13, 13, 1, 2, 0);
        lies("d311p13lp02r", 1, 2, 13, 11, 3, 2, 0);
        lies("d489p00rp01rp07rp12r", 3, 12, 12, 16, 2, 1, 6);
        lies("d489p00rp01rp07lp12r", 3, 12, 14, 16, 0, 1, 6);
        lies("d489p00lp01rp07lp12r", 3, 12, 12, 8, 2, 1, 6);
        lies("d489p00lp01rp07rp12r", 3, 12, 14, 8, 0, 1, 6);
    }

    private static void theTilesAtTheEdges() {
        lies(Games.AT_THE_EDGE, 5, 17, 22, 12, 0, 6, 2);
        lies(Games.AT_THE_SOUTH, 6, 11, 13, 23, 1, 1, 5);
        lies(Games.AT_THE_NORTH, 6, 11, 13, 1, 3, 1, 5);
        lies(Games.AT_THE_WEST, 8, 10, 2, 16, 2, 1, 4);
    }

    // ---- promise 9

    // "Throws IndexOutOfBoundsException if there is no such player"
    private static void noSuchPlayer() {
        for (String game : new String[] {"", "d400", Games.WON}) {
            for (int p : new int[] {-1, 4, MIN, MAX}) {
                Check.index(game + ": playerOf(" + p + ", 0)", () -> Games.acted(game).playerOf(p, 0));
            }
        }
    }

    // "Throws IllegalArgumentException if what is not 0 to 3"
    private static void noSuchNumberOfAPlayer() {
        for (int p : new int[] {0, 3}) {
            for (int what : new int[] {-1, 4, MIN, MAX}) {
                Check.argument("playerOf(" + p + ", " + what + ")", () -> Games.acted("d200").playerOf(p, what));
            }
        }
    }

    // "If several exceptions apply to a call, the one that its description names first is thrown."
    private static void noSuchPlayerAndNoSuchNumber() {
        Check.index("playerOf(4, 4)", () -> new Counted().playerOf(4, 4));
        Check.index("playerOf(-1, -1)", () -> new Counted().playerOf(-1, -1));
    }

    private static void player(String game, int p, int... want) {
        for (int what = 0; what < 4; what++) {
            Check.due(game + ": playerOf(" + p + ", " + what + ")", Games.acted(game).playerOf(p, what), want[what]);
        }
    }

    // "(0 and 1 are 0 for one who is not in this round)"
    private static void aPlayerWhoIsNotInThisRound() {
        player("", 0, 0, 0, 0, 0);
        player("", 3, 0, 0, 0, 0);
        player("d211", 1, 5, 26, 0, 0);
        player("d211", 2, 0, 0, 0, 0);
        player("d211", 3, 0, 0, 0, 0);
        player("d311", 2, 5, 28, 0, 0);
        player("d311", 3, 0, 0, 0, 0);
        player("d411d211", 2, 0, 0, 0, 0);
    }

    // "Scores are kept for the players 0 to 3 over all rounds."
    private static void theScoreOfAPlayerWhoIsNotInThisRound() {
        Counted x = Games.acted(WON_BY_THE_LAST);
        int score = x.playerOf(0, 1) + x.playerOf(1, 1) + x.playerOf(2, 1) - x.playerOf(3, 1);
        Check.due("the score of the player 3", x.playerOf(3, 2), score);
        x.deal(2, 11);
        int[] want = {0, 0, score, 1};
        for (int what = 0; what < 4; what++) {
            Check.due("playerOf(3, " + what + ") in a round of two", x.playerOf(3, what), want[what]);
        }
    }

    // "2: the score so far", "3: the rounds that were won so far"
    private static void theScoresOfSeveralRounds() {
        player(Games.WON, 0, 0, 0, 9, 1);
        player(Games.BLOCKED, 0, 3, 16, 100, 1);
        Counted x = Games.acted(WON_BY_THE_LAST);
        int score = x.playerOf(3, 2);
        Games.act(x, WON_BY_THE_LAST);
        Check.due("the score of two rounds", x.playerOf(3, 2), 2 * score);
        Check.due("two rounds won", x.playerOf(3, 3), 2);
    }

    // "0: the tiles in the hand, how many; 1: their pips"
    private static void theHand() {
        player("d311", 0, 5, 32, 0, 0);
        player("d311p07r", 0, 4, 30, 0, 0);
        player("d311w", 0, 6, 42, 0, 0);
        player(Games.WON, 0, 0, 0, 9, 1);
        player("d489", 0, 5, 25, 0, 0);
    }

    // ---- promise 10

    // "Throws IndexOutOfBoundsException if there is no such cell"
    private static void noSuchCell() {
        for (String game : new String[] {"", Games.AT_THE_EDGE}) {
            for (int none : new int[] {-1, 25, MIN, MAX}) {
                Check.index(game + ": at(" + none + ", 12)", () -> Games.acted(game).at(none, 12));
                Check.index(game + ": at(12, " + none + ")", () -> Games.acted(game).at(12, none));
                Check.index(game + ": at(" + none + ", 25)", () -> Games.acted(game).at(none, 25));
            }
        }
        Check.index("at(25, 11)", () -> new Counted().at(25, 11));
        Check.index("at(-1, 13)", () -> new Counted().at(-1, 13));
    }

    // "x and y from 0 to 24", "NONE if it is free"
    private static void theCorners() {
        for (int column : new int[] {0, 24}) {
            for (int row : new int[] {0, 24}) {
                Check.due("at(" + column + ", " + row + ")", new Counted().at(column, row), -1);
                Check.due("at(" + column + ", " + row + ")", Games.acted(Games.AT_THE_SOUTH).at(column, row), -1);
            }
        }
    }

    private static void cell(String game, int column, int row, int want) {
        Check.due(game + ": at(" + column + ", " + row + ")", Games.acted(game).at(column, row), want);
    }

    // "Returns the pips of the half that covers it"
    private static void coveredCells() {
        cell("d311p11r", 11, 12, -1);
        cell("d311p11r", 12, 12, 1);
        cell("d311p11r", 13, 12, 5);
        cell("d311p11r", 14, 12, -1);
        cell("d489p00r", 12, 12, 0);
        cell("d489p00r", 13, 12, 0);
        cell("d489p00r", 13, 13, -1);
        cell("d311p11rd311", 12, 12, -1);
        cell(Games.WON, 12, 12, 1);
    }

    private static void coveredCellsAtTheEdges() {
        cell(Games.AT_THE_EDGE, 23, 12, 2);
        cell(Games.AT_THE_EDGE, 24, 12, -1);
        cell(Games.AT_THE_SOUTH, 13, 23, 1);
        cell(Games.AT_THE_SOUTH, 13, 24, 5);
        cell(Games.AT_THE_NORTH, 13, 1, 1);
        cell(Games.AT_THE_NORTH, 13, 0, 5);
        cell(Games.AT_THE_WEST, 1, 16, 4);
        cell(Games.AT_THE_WEST, 0, 16, -1);
    }

    // ---- promise 11

    // "Throws IllegalArgumentException if way is neither 0 nor 1"
    private static void noSuchWay() {
        for (String game : new String[] {"", "d311p11r"}) {
            for (int way : new int[] {-1, 2, MIN, MAX}) {
                Check.argument(game + ": free(" + way + ")", () -> Games.acted(game).free(way));
            }
        }
    }

    // "how many cells are free (the same for both ways)"
    private static void freeCells() {
        String[] games = {"", "d311", "d311p11r", "d489p00r", Games.WON, Games.WON + "d311", Games.AT_THE_SOUTH,
            Games.AT_THE_NORTH, Games.BOTH_COVERED};
        int[] free = {625, 625, 623, 623, 607, 625, 611, 611, 609};
        for (int i = 0; i < games.length; i++) {
            Check.due(games[i] + ": free(0)", Games.acted(games[i]).free(0), free[i]);
            Check.due(games[i] + ": free(1)", Games.acted(games[i]).free(1), free[i]);
        }
    }

    public static void main(String[] args) {
        aboutOutOfRange();
        theRoundsSoFar();
        whetherARoundIsPlayed();
        thePlayersOfThisRound();
        thePlayerWhoseTurnItIs();
        theTilesOfTheHeap();
        theTilesOnTheTable();
        theEnd();
        theEndBehindEachTile();
        theDirection();
        thePassesJustNow();
        thePipsOnTheTable();
        refusedSoFar();
        notRefusedButThrown();
        laidInAllRounds();
        tileOfNoTile();
        tileOfNoNumber();
        tileOfNoTileAndNoNumber();
        theHalvesOfTheTiles();
        thePlayerWhoHasATile();
        thePlaceOfATileOnTheTable();
        thePlaceOfATileInTheHeap();
        laidNotSoMany();
        laidNoNumber();
        laidNotSoManyAndNoNumber();
        theFirstTile();
        theTilesBehindIt();
        theTilesAtTheEdges();
        noSuchPlayer();
        noSuchNumberOfAPlayer();
        noSuchPlayerAndNoSuchNumber();
        aPlayerWhoIsNotInThisRound();
        theScoreOfAPlayerWhoIsNotInThisRound();
        theScoresOfSeveralRounds();
        theHand();
        noSuchCell();
        theCorners();
        coveredCells();
        coveredCellsAtTheEdges();
        noSuchWay();
        freeCells();
        Check.end();
    }
}
