/** Promises 6 to 11: about, tileOf, laid, playerOf, at, free. */
public final class ViewTest {
    private static final int MIN = Integer.MIN_VALUE;
    private static final int MAX = Integer.MAX_VALUE;

    private static void about(String game, int... want) {
        Counted x = Games.acted(game);
        for (int what = 0; what < 12; what++) {
            Check.due(game + ": about(" + what + ")", x.about(what), want[what]);
        }
    }

    private static void promise6About() {
        about("", 0, 0, 0, -1, 0, 0, -1, 0, 0, 0, 0, 0);
        about("d311", 1, 1, 3, 0, 13, 0, -1, 0, 0, 0, 0, 0);
        about("d311p11r", 1, 1, 3, 1, 13, 1, 5, 0, 0, 6, 0, 1);
        about("d311p07r", 1, 1, 3, 1, 13, 1, 1, 1, 0, 2, 0, 1);
        about("d311p07l", 1, 1, 3, 1, 13, 1, 1, 3, 0, 2, 0, 1);
        about(Games.WON, 1, 2, 2, -1, 17, 9, 1, 2, 0, 58, 0, 9);
        about(Games.BLOCKED, 1, 2, 4, -1, 0, 6, 6, 0, 4, 36, 0, 6);
        about(Games.COVERED, 1, 1, 4, 0, 7, 8, 1, 3, 0, 46, 0, 8);
        about(Games.WON + "d311", 2, 1, 3, 1, 13, 0, -1, 0, 0, 0, 0, 9);
        about(Games.BLOCKED + Games.DEALT + "p09r", 2, 1, 3, 2, 13, 1, 3, 0, 0, 4, 0, 7);
        Counted x = Games.acted(Games.WON);
        for (int what : new int[] {-1, 12, MIN, MAX}) {
            Check.argument("about(" + what + ")", () -> x.about(what));
        }
    }

    private static void promise6Refused() {
        Counted x = Games.acted("d311");
        x.play(0, false);
        x.play(27, true);
        Check.due("about(10) behind two refused", x.about(10), 2);
        Check.index("play(28)", () -> x.play(28, true));
        x.play(7, true);
        x.why(0);
        x.runScript(1, 2000);
        Check.due("about(10) behind questions", x.about(10), 2);
        x.deal(2, 5);
        Check.due("about(10) in the next round", x.about(10), 2);
        Counted over = Games.acted(Games.WON);
        Check.state("play() in a round that is over", () -> over.play(2, true));
        Check.due("about(10) behind it", over.about(10), 0);
    }

    private static void tile(Counted x, int t, int... want) {
        for (int what = 0; what < 5; what++) {
            Check.due("tileOf(" + t + ", " + what + ")", x.tileOf(t, what), want[what]);
        }
    }

    private static void promise7TileOf() {
        Counted x = new Counted();
        int t = 0;
        for (int a = 0; a <= 6; a++) {
            for (int b = a; b <= 6; b++) {
                tile(x, t, a, b, -1, -1, -1);
                t++;
            }
        }
        x.deal(3, 11);
        tile(x, 7, 1, 1, 0, -1, -1);
        tile(x, 9, 1, 3, 1, -1, -1);
        tile(x, 23, 4, 5, 2, -1, -1);
        int[] heap = {24, 3, 25, 27, 0, 6, 19, 18, 22, 8, 15, 4, 16};
        for (int k = 0; k < heap.length; k++) {
            Check.due("place in the heap of " + heap[k], x.tileOf(heap[k], 4), k);
            Check.due("holder of " + heap[k], x.tileOf(heap[k], 2), -1);
        }
        x.draw();
        tile(x, 24, 4, 6, 0, -1, -1);
        tile(x, 16, 2, 5, -1, -1, 11);
        x.play(13, true);
        x.play(2, true);
        tile(x, 13, 2, 2, -1, 0, -1);
        tile(x, 2, 0, 2, -1, 1, -1);
        for (int none : new int[] {-1, 28, MIN, MAX}) {
            Check.index("tileOf(" + none + ", 0)", () -> x.tileOf(none, 0));
            Check.index("tileOf(" + none + ", 5)", () -> x.tileOf(none, 5));
        }
        for (int what : new int[] {-1, 5, MIN, MAX}) {
            Check.argument("tileOf(0, " + what + ")", () -> x.tileOf(0, what));
        }
    }

    private static void tilesInARow(String game, int[][] want) {
        Counted x = Games.acted(game);
        for (int k = 0; k < want.length; k++) {
            for (int what = 0; what < 6; what++) {
                Check.due(game + ": laid(" + k + ", " + what + ")", x.laid(k, what), want[k][what]);
            }
        }
        for (int k : new int[] {-1, want.length, MIN, MAX}) {
            Check.index(game + ": laid(" + k + ", 0)", () -> x.laid(k, 0));
            Check.index(game + ": laid(" + k + ", 6)", () -> x.laid(k, 6));
        }
        if (want.length > 0) {
            for (int what : new int[] {-1, 6, MIN, MAX}) {
                Check.argument(game + ": laid(0, " + what + ")", () -> x.laid(0, what));
            }
        }
    }

    private static void promise8Laid() {
        tilesInARow("", new int[][] {});
        tilesInARow("d311", new int[][] {});
        tilesInARow("d311p13l", new int[][] {{13, 12, 12, 0, 2, 2}});
        tilesInARow("d311p13lp02lp05r", new int[][] {
            {13, 12, 12, 0, 2, 2}, {2, 13, 11, 3, 2, 0}, {5, 13, 9, 3, 0, 5}});
        tilesInARow(Games.COVERED, new int[][] {
            {20, 12, 12, 0, 3, 5}, {5, 14, 12, 0, 5, 0}, {0, 16, 12, 0, 0, 0}, {6, 17, 13, 1, 0, 6},
            {27, 17, 15, 1, 6, 6}, {17, 16, 16, 2, 6, 2}, {13, 14, 16, 2, 2, 2}, {8, 13, 15, 3, 2, 1}});
        tilesInARow(Games.WON, new int[][] {
            {9, 12, 12, 0, 1, 3}, {21, 14, 12, 0, 3, 6}, {27, 16, 12, 0, 6, 6}, {26, 17, 13, 1, 6, 5},
            {5, 17, 15, 1, 5, 0}, {3, 17, 17, 1, 0, 3}, {18, 17, 19, 1, 3, 3}, {14, 16, 20, 2, 3, 2},
            {8, 14, 20, 2, 2, 1}});
        tilesInARow(Games.WON + "d311", new int[][] {});
    }

    private static void players(String game, int[][] want) {
        Counted x = Games.acted(game);
        for (int p = 0; p < 4; p++) {
            for (int what = 0; what < 4; what++) {
                Check.due(game + ": playerOf(" + p + ", " + what + ")", x.playerOf(p, what), want[p][what]);
            }
        }
    }

    private static void promise9PlayerOf() {
        players("d311", new int[][] {{5, 32, 0, 0}, {5, 26, 0, 0}, {5, 28, 0, 0}, {0, 0, 0, 0}});
        players("d311ww", new int[][] {{7, 45, 0, 0}, {5, 26, 0, 0}, {5, 28, 0, 0}, {0, 0, 0, 0}});
        players(Games.WON, new int[][] {{0, 0, 9, 1}, {2, 9, 0, 0}, {0, 0, 0, 0}, {0, 0, 0, 0}});
        players(Games.BLOCKED, new int[][] {{3, 16, 100, 1}, {3, 16, 0, 0}, {12, 77, 0, 0}, {4, 23, 0, 0}});
        players(Games.BLOCKED + "d233", new int[][] {{5, 37, 100, 1}, {5, 23, 0, 0}, {0, 0, 0, 0}, {0, 0, 0, 0}});
        Counted x = Games.acted("d311");
        for (int p : new int[] {-1, 4, MIN, MAX}) {
            Check.index("playerOf(" + p + ", 0)", () -> x.playerOf(p, 0));
            Check.index("playerOf(" + p + ", 4)", () -> x.playerOf(p, 4));
        }
        for (int what : new int[] {-1, 4, MIN, MAX}) {
            Check.argument("playerOf(3, " + what + ")", () -> x.playerOf(3, what));
        }
    }

    // Half the table, as more cells are not asked of one object.
    private static int sumOfRows(int first, int last) {
        Counted x = Games.acted(Games.COVERED);
        int sum = 0;
        for (int row = first; row <= last; row++) {
            for (int column = 0; column < 25; column++) {
                sum += x.at(column, row) + 1;
            }
        }
        return sum;
    }

    private static void promise10At() {
        Counted x = Games.acted(Games.COVERED);
        int[][] covered = {{12, 12, 3}, {13, 12, 5}, {14, 12, 5}, {15, 12, 0}, {16, 12, 0}, {17, 12, 0}, {17, 13, 0},
            {17, 14, 6}, {17, 15, 6}, {17, 16, 6}, {16, 16, 6}, {15, 16, 2}, {14, 16, 2}, {13, 16, 2}, {13, 15, 2},
            {13, 14, 1}};
        int sum = 0;
        for (int[] cell : covered) {
            Check.due("at(" + cell[0] + ", " + cell[1] + ")", x.at(cell[0], cell[1]), cell[2]);
            sum += cell[2] + 1;
        }
        Check.due("the pips of all cells, and one more each", sumOfRows(0, 12) + sumOfRows(13, 24), sum);
        Check.due("at(13, 13)", x.at(13, 13), -1);
        for (int none : new int[] {-1, 25, MIN, MAX}) {
            Check.index("at(" + none + ", 12)", () -> x.at(none, 12));
            Check.index("at(12, " + none + ")", () -> x.at(12, none));
        }
        x.deal(2, 1);
        Check.due("at(12, 12) in the next round", x.at(12, 12), -1);
    }

    private static void promise11Free() {
        String[] games = {"", "d311", "d311p11r", Games.COVERED, Games.AT_THE_EDGE, Games.WON, Games.WON + "d311"};
        int[] tiles = {0, 0, 1, 8, 6, 9, 0};
        for (int i = 0; i < games.length; i++) {
            Counted x = Games.acted(games[i]);
            Check.due(games[i] + ": free(0)", x.free(0), 625 - 2 * tiles[i]);
            Check.due(games[i] + ": free(1)", x.free(1), 625 - 2 * tiles[i]);
        }
        Counted x = Games.acted("d311");
        for (int way : new int[] {-1, 2, MIN, MAX}) {
            Check.argument("free(" + way + ")", () -> x.free(way));
        }
    }

    public static void main(String[] args) {
        promise6About();
        promise6Refused();
        promise7TileOf();
        promise8Laid();
        promise9PlayerOf();
        promise10At();
        promise11Free();
        Check.end();
    }
}
