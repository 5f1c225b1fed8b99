/** Promises 17 to 21: why, legal, best, chain, reach. */
public final class QuestionTest {
    private static final int MIN = Integer.MIN_VALUE;
    private static final int MAX = Integer.MAX_VALUE;

    private static void promise17Why() {
        Counted x = Games.acted("d311");
        Check.due("why(7) on the bare table", x.why(7), 0);
        Check.due("why(2) of a tile that 1 has", x.why(2), 1);
        Check.due("why(24) of a tile in the heap", x.why(24), 1);
        x.play(11, false);
        Check.due("why(11) of a tile on the table", x.why(11), 1);
        Check.due("why(7) of a tile that 0 has", x.why(7), 1);
        Check.due("why(2)", x.why(2), 2);
        Check.due("why(20)", x.why(20), 0);
        Counted covered = Games.acted(Games.COVERED);
        Check.due("why(9) with a covered cell", covered.why(9), 3);
        Check.due("why(12) with a covered cell", covered.why(12), 3);
        Check.due("why(14) that does not fit", covered.why(14), 2);
        Check.due("why(8) on the table", covered.why(8), 1);
        Counted edge = Games.acted(Games.AT_THE_EDGE);
        Check.due("why(13) at the edge", edge.why(13), 3);
        Check.due("why(23) at the edge", edge.why(23), 2);
        for (String game : new String[] {"", Games.WON, Games.BLOCKED}) {
            for (int t = 0; t < 28; t++) {
                int tile = t;
                Check.due(game + ": why(" + t + ")", Games.acted(game).why(tile), -1);
            }
        }
        for (int t : new int[] {-1, 28, MIN, MAX}) {
            Check.index("why(" + t + ")", () -> x.why(t));
            Check.index("why(" + t + ") without a round", () -> new Counted().why(t));
        }
    }

    private static void sets(String game, int legal, int best) {
        Counted x = Games.acted(game);
        String before = Games.view(x);
        Check.due(game + ": legal()", x.legal(), legal);
        Check.due(game + ": best()", x.best(), best);
        Check.same(game + ": legal() and best() change nothing", Games.view(x), before);
    }

    private static void promises18And19LegalAndBest() {
        sets("", 0, -1);
        sets("d311", Games.setOf(7, 11, 13, 21, 26), 26);
        sets("d311p11r", Games.setOf(20), 20);
        sets("d311p07r", Games.setOf(9, 10, 12), 12);
        sets("d311p26r", Games.setOf(12), 12);
        sets("d311p21r", Games.setOf(12), 12);
        sets("d311p13r", Games.setOf(2), 2);
        sets("d303p10lp04l", Games.setOf(0), 0);
        sets(Games.COVERED, 0, -1);
        sets(Games.AT_THE_EDGE, 0, -1);
        sets(Games.WON, 0, -1);
        sets(Games.BLOCKED, 0, -1);
        // 3 4 has seven pips, 4 4 has eight.
        sets("d465p10r", Games.setOf(19, 22), 22);
        // The end is 2: 0 2, 1 2 and 2 3.
        sets("d465p27rp17rp13rwwwwwwww", Games.setOf(2, 8, 14), 14);
        sets("d468", Games.setOf(1, 2, 15, 22, 23), 23);
    }

    private static void promise19TheLowestOfSeveral() {
        int seen = 0;
        for (int seed = 0; seed < 100; seed++) {
            Counted x = new Counted();
            x.deal(2, seed);
            int most = -1;
            int want = -1;
            int many = 0;
            for (int t = 0; t < 28; t++) {
                if (x.tileOf(t, 2) == 0) {
                    int pips = x.tileOf(t, 0) + x.tileOf(t, 1);
                    many = pips > most ? 1 : pips == most ? many + 1 : many;
                    want = pips > most ? t : want;
                    most = Math.max(most, pips);
                }
            }
            seen += many > 1 ? 1 : 0;
            Check.due("best() of the seed " + seed, x.best(), want);
        }
        Check.due("hands with several of the most pips (1: there are some)", seen > 0 ? 1 : 0, 1);
    }

    private static void chains(String game, int p, int... want) {
        Counted x = Games.acted(game);
        for (int max = 1; max <= 6; max++) {
            Check.due(game + ": chain(" + p + ", " + max + ")", x.chain(p, max), want[max - 1]);
        }
    }

    private static void promise20Chain() {
        chains("", 0, 0, 0, 0, 0, 0, 0);
        // 11 15 56 63.
        chains("d311", 0, 1, 2, 3, 4, 4, 4);
        // 13 35; the lesser half lies first, so that 31 14 and 31 16 are no chains.
        chains("d311", 1, 1, 2, 2, 2, 2, 2);
        // 45 50 01.
        chains("d311", 2, 1, 2, 3, 3, 3, 3);
        // 00 02 24 43 35, from the double blank on.
        chains("d233", 1, 1, 2, 3, 4, 5, 5);
        chains("d311", 3, 0, 0, 0, 0, 0, 0);
        // The end is 5: 53 31 16 and 53 31 14.
        chains("d311p11r", 1, 1, 2, 3, 3, 3, 3);
        // The end is 5: 50 01; 54 is no chain with others.
        chains("d311p11r", 2, 1, 2, 2, 2, 2, 2);
        // The end is 5: 56 63.
        chains("d311p11r", 0, 1, 2, 2, 2, 2, 2);
        // The end is 1, and the next cell is covered, which does not matter: 13 32.
        chains(Games.COVERED, 0, 1, 2, 2, 2, 2, 2);
        // The end is 2: 22 24 45 52.
        chains(Games.AT_THE_EDGE, 2, 1, 2, 3, 4, 4, 4);
        chains(Games.WON, 1, 0, 0, 0, 0, 0, 0);
        chains(Games.BLOCKED, 2, 0, 0, 0, 0, 0, 0);
        chains("d311wwwwwwwwwwwww", 0, 1, 2, 3, 4, 5, 6);
        Counted x = Games.acted("d311");
        for (int p : new int[] {-1, 4, MIN, MAX}) {
            Check.index("chain(" + p + ", 1)", () -> x.chain(p, 1));
            Check.index("chain(" + p + ", 0)", () -> x.chain(p, 0));
        }
        for (int max : new int[] {0, 7, MIN, MAX}) {
            Check.argument("chain(0, " + max + ")", () -> x.chain(0, max));
            Check.argument("chain(0, " + max + ") without a round", () -> new Counted().chain(0, max));
        }
    }

    private static void reach(String game, int... want) {
        Counted x = Games.acted(game);
        for (int what = 0; what < 6; what++) {
            Check.due(game + ": reach(" + what + ")", x.reach(what), want[what]);
        }
    }

    private static void promise21Reach() {
        reach("", -1, -1, -1, -1, 0, 0);
        reach("d311", -1, -1, -1, -1, 0, 0);
        reach("d311p11r", 12, 13, 12, 12, 0, 0);
        reach("d311p07r", 12, 13, 12, 12, 1, 0);
        reach("d310p22rp23lp25rp05rp04l", 9, 13, 12, 16, 2, 0);
        reach("d311p13lp02lp05r", 12, 13, 8, 12, 0, 1);
        reach(Games.COVERED, 12, 17, 12, 16, 3, 0);
        reach("d430p20lp05rp00lp06rp27lp17lp13r", 12, 17, 8, 12, 1, 2);
        reach("d430p20lp05rp00lp06rp27lp17lp13rwp08l", 12, 17, 6, 12, 1, 2);
        reach(Games.AT_THE_EDGE, 12, 23, 12, 12, 0, 0);
        reach(Games.WON, 12, 17, 12, 20, 2, 0);
        reach(Games.WON + "d311", -1, -1, -1, -1, 0, 0);
        reach(Games.WON + "d311p09r", 12, 13, 12, 12, 0, 0);
        Counted x = Games.acted("d311");
        for (int what : new int[] {-1, 6, MIN, MAX}) {
            Check.argument("reach(" + what + ")", () -> x.reach(what));
        }
    }

    public static void main(String[] args) {
        promise17Why();
        promises18And19LegalAndBest();
        promise19TheLowestOfSeveral();
        promise20Chain();
        promise21Reach();
        Check.end();
    }
}
