/** The edges that the document names in promises 17 to 21: above each test its sentence. */
public final class QuestionEdgesTest {
    private static final int MIN = Integer.MIN_VALUE;
    private static final int MAX = Integer.MAX_VALUE;
    private static final String[] NO_ROUND_IS_PLAYED = {"", Games.WON, Games.BLOCKED};

    private QuestionEdgesTest() {
    }

    // ---- promise 17

    // "Throws IndexOutOfBoundsException if there is no such tile"
    private static void whyOfNoTile() {
        for (String game : new String[] {"", "d311", Games.WON, Games.BLOCKED}) {
            for (int t : new int[] {-1, 28, MIN, MAX}) {
                Check.index(game + ": why(" + t + ")", () -> Games.acted(game).why(t));
            }
        }
    }

    private static void why(String game, int t, int want) {
        Check.due(game + ": why(" + t + ")", Games.acted(game).why(t), want);
    }

    // "NONE if no round is played"
    private static void whyWithoutARound() {
        for (String game : NO_ROUND_IS_PLAYED) {
            for (int t : new int[] {0, 2, 16, 27}) {
                why(game, t, -1);
            }
        }
    }

    // "0 if it can be"
    private static void whyOfATileThatCanBeLaid() {
        why("d489", 0, 0);
        why("d233", 27, 0);
        why("d311", 26, 0);
        why("d311p11r", 20, 0);
        why("d430p20lp05r", 0, 0);
        why("d275p25rp05rp03rp21rp17rp08r", 11, 0);
        why("d275p25lp05rp03rp21rp17rp08r", 11, 0);
    }

    // "Returns the reason"
    private static void whyNot() {
        why("d311", 2, 1);
        why("d311", 24, 1);
        why("d311p11r", 11, 1);
        why("d311p11r", 2, 2);
        why(Games.COVERED, 9, 3);
        why(Games.BOTH_COVERED, 4, 3);
        why(Games.AT_THE_EDGE, 15, 3);
        why(Games.AT_THE_SOUTH, 16, 3);
        why(Games.AT_THE_NORTH, 16, 3);
        why(Games.AT_THE_WEST, 24, 3);
    }

    private static void whyOfSeveralReasonsIsTheFirst() {
        why("d311p11r", 13, 1);
        why(Games.AT_THE_EDGE, 4, 1);
        why(Games.AT_THE_EDGE, 2, 1);
        why(Games.AT_THE_EDGE, 23, 2);
        why(Games.BOTH_COVERED, 25, 2);
    }

    // ---- promise 18

    private static void legal(String game, int... tiles) {
        Check.due(game + ": legal()", Games.acted(game).legal(), Games.setOf(tiles));
    }

    // "0 if no round is played"
    private static void legalWithoutARound() {
        for (String game : NO_ROUND_IS_PLAYED) {
            legal(game);
        }
    }

    // "Returns them, as a set (bit t for the tile t)"
    private static void legalOfTheFirstAndTheLastTile() {
        legal("d489", 0, 3, 10, 15, 26);
        legal("d400", 3, 16, 19, 22, 27);
        legal("d303p10lp04l", 0);
        legal("d430p20lp05r", 0, 1, 2);
        legal("d430p20lp05rp00r", 6);
    }

    private static void legalIfNoTileCanBeLaid() {
        legal("d233p27r");
        legal(Games.COVERED);
        legal(Games.BOTH_COVERED);
        legal(Games.AT_THE_EDGE);
        legal(Games.AT_THE_SOUTH);
        legal(Games.AT_THE_NORTH);
        legal(Games.AT_THE_WEST);
    }

    // ---- promise 19

    private static void best(String game, int want) {
        Check.due(game + ": best()", Games.acted(game).best(), want);
    }

    // "NONE if there is none"
    private static void bestOfNone() {
        for (String game : NO_ROUND_IS_PLAYED) {
            best(game, -1);
        }
        best("d233p27r", -1);
        best(Games.COVERED, -1);
        best(Games.BOTH_COVERED, -1);
        best(Games.AT_THE_EDGE, -1);
        best(Games.AT_THE_SOUTH, -1);
    }

    // "of several the lowest"
    private static void bestOfSeveral() {
        // 1 6 and 3 4.
        best("d202", 12);
        // 1 4 and 2 3.
        best("d240", 10);
        // 2 6 and 4 4.
        best("d267", 17);
        // 3 6 and 4 5.
        best("d295", 21);
    }

    // "of the tiles that can be laid now the one with the most pips"
    private static void bestOfThoseThatCanBeLaid() {
        best("d311", 26);
        best("d311p11r", 20);
        best("d430p20lp05r", 2);
        best("d430p20lp05rp00r", 6);
        best("d400", 27);
        best("d303p10lp04l", 0);
        // 5 5 would have more than 3 3, but does not fit.
        best("d345p10rp19r", 18);
    }

    // ---- promise 20

    private static void chain(String game, int p, int max, int want) {
        Check.due(game + ": chain(" + p + ", " + max + ")", Games.acted(game).chain(p, max), want);
    }

    // "Throws IndexOutOfBoundsException if there is no such player"
    private static void chainOfNoPlayer() {
        for (String game : new String[] {"", "d311", "d411", Games.WON}) {
            for (int p : new int[] {-1, 4, MIN, MAX}) {
                Check.index(game + ": chain(" + p + ", 1)", () -> Games.acted(game).chain(p, 1));
            }
        }
    }

    // "Throws IllegalArgumentException if max is out of range"
    private static void chainOfTooFewOrTooMany() {
        for (String game : new String[] {"", "d311", "d411", Games.WON}) {
            for (int max : new int[] {0, 7, -1, MIN, MAX}) {
                Check.argument(game + ": chain(3, " + max + ")", () -> Games.acted(game).chain(3, max));
            }
        }
    }

    // "If several exceptions apply to a call, the one that its description names first is thrown."
    private static void chainOfNoPlayerAndTooMany() {
        for (String game : new String[] {"", "d311"}) {
            Check.index(game + ": chain(4, 7)", () -> Games.acted(game).chain(4, 7));
            Check.index(game + ": chain(-1, 0)", () -> Games.acted(game).chain(-1, 0));
        }
    }

    // "0 if no round is played"
    private static void chainWithoutARound() {
        for (String game : NO_ROUND_IS_PLAYED) {
            for (int p = 0; p < 4; p++) {
                chain(game, p, 1, 0);
                chain(game, p, 6, 0);
            }
        }
    }

    // A player who is not in the round has no tiles.
    private static void chainOfAPlayerWhoIsNotInTheRound() {
        chain("d211", 2, 6, 0);
        chain("d211", 3, 6, 0);
        chain("d311", 3, 6, 0);
        chain("d411", 3, 1, 1);
    }

    // "max: 1 to 6: how many tiles at most": 11 15 56 63, and no more
    private static void chainOfTheLeastAndTheGreatestMax() {
        chain("d311", 0, 1, 1);
        chain("d311", 0, 3, 3);
        chain("d311", 0, 4, 4);
        chain("d311", 0, 5, 4);
        chain("d311", 0, 6, 4);
        chain("d311wwwwwwwwwwwww", 0, 1, 1);
        chain("d311wwwwwwwwwwwww", 0, 5, 5);
        chain("d311wwwwwwwwwwwww", 0, 6, 6);
    }

    // "from the end of now on", also for a player whose turn it is not; "0" if no tile fits
    private static void chainFromTheEnd() {
        chain("d311p11r", 0, 6, 2);
        chain("d311p11r", 1, 6, 3);
        chain("d311p11r", 2, 6, 2);
        chain("d233p27r", 0, 6, 0);
        chain("d233p27r", 1, 6, 0);
        chain("d489p00r", 2, 1, 1);
    }

    // "wherever cells are covered"
    private static void chainWhereverCellsAreCovered() {
        // The end is 1: 13 32.
        chain(Games.COVERED, 0, 6, 2);
        // The end is 4: 40 00 06.
        chain(Games.BOTH_COVERED, 2, 6, 3);
        // The end is 2: 22 24 45 52.
        chain(Games.AT_THE_EDGE, 2, 6, 4);
        // The end is 5: 52.
        chain(Games.AT_THE_SOUTH, 1, 6, 1);
        chain(Games.AT_THE_NORTH, 1, 6, 1);
        // The end is 4: 46.
        chain(Games.AT_THE_WEST, 1, 6, 1);
    }

    // "(from any tile on, without a tile on the table, its lesser half first, as told)"
    private static void chainOnTheBareTable() {
        // 35; 31 14 would begin with the greater half.
        chain("d311", 1, 1, 1);
        chain("d311", 1, 6, 2);
        chain("d311", 2, 6, 3);
        chain("d233", 1, 6, 5);
        // 00 03, or 46 66, of a player whose turn it is not.
        chain("d411", 3, 6, 2);
    }

    // ---- promise 21

    // "Throws IllegalArgumentException if what is not 0 to 5"
    private static void reachOutOfRange() {
        for (String game : new String[] {"", "d311p11r", Games.WON}) {
            for (int what : new int[] {-1, 6, MIN, MAX}) {
                Check.argument(game + ": reach(" + what + ")", () -> Games.acted(game).reach(what));
            }
        }
    }

    private static void reach(String game, int... want) {
        Counted x = Games.acted(game);
        for (int what = 0; what < 6; what++) {
            Check.due(game + ": reach(" + what + ")", x.reach(what), want[what]);
        }
    }

    // "NONE for 0 to 3 without a tile on the table"
    private static void reachWithoutATile() {
        reach("", -1, -1, -1, -1, 0, 0);
        reach("d311", -1, -1, -1, -1, 0, 0);
        reach(Games.WON + "d311", -1, -1, -1, -1, 0, 0);
    }

    private static void reachOfOneTile() {
        reach("d311p11r", 12, 13, 12, 12, 0, 0);
        reach("d311p07r", 12, 13, 12, 12, 1, 0);
        reach("d311p07l", 12, 13, 12, 12, 0, 1);
    }

    // "0 and 1: the least and the greatest x of covered cells; 2 and 3: the least and the greatest y"
    private static void reachToTheEdges() {
        reach(Games.AT_THE_EDGE, 12, 23, 12, 12, 0, 0);
        reach(Games.AT_THE_SOUTH, 12, 13, 12, 24, 1, 0);
        reach(Games.AT_THE_NORTH, 12, 13, 0, 12, 0, 1);
        reach(Games.AT_THE_WEST, 1, 13, 12, 16, 2, 0);
    }

    // "4: the turns of the chain to the right so far; 5: those to the left"
    private static void reachOfTheTurns() {
        reach(Games.BOTH_COVERED, 9, 13, 12, 16, 4, 0);
        reach(Games.COVERED, 12, 17, 12, 16, 3, 0);
        reach("d489p00rp01rp07l", 12, 13, 12, 16, 1, 1);
        reach("d489p00lp01lp07l", 12, 13, 8, 12, 0, 2);
        reach("d311p11l", 12, 13, 12, 12, 0, 0);
        reach(Games.BOTH_COVERED + "d311p20l", 12, 13, 12, 12, 0, 0);
    }

    public static void main(String[] args) {
        whyOfNoTile();
        whyWithoutARound();
        whyOfATileThatCanBeLaid();
        whyNot();
        whyOfSeveralReasonsIsTheFirst();
        legalWithoutARound();
        legalOfTheFirstAndTheLastTile();
        legalIfNoTileCanBeLaid();
        bestOfNone();
        bestOfSeveral();
        bestOfThoseThatCanBeLaid();
        chainOfNoPlayer();
        chainOfTooFewOrTooMany();
        chainOfNoPlayerAndTooMany();
        chainWithoutARound();
        chainOfAPlayerWhoIsNotInTheRound();
        chainOfTheLeastAndTheGreatestMax();
        chainFromTheEnd();
        chainWhereverCellsAreCovered();
        chainOnTheBareTable();
        reachOutOfRange();
        reachWithoutATile();
        reachOfOneTile();
        reachToTheEdges();
        reachOfTheTurns();
        Check.end();
    }
}
