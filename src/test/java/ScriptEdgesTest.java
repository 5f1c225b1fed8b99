/** The edges that the document names in promises 22 and 23: above each test its sentence. */
public final class ScriptEdgesTest {
    private static final int MIN = Integer.MIN_VALUE;
    private static final int MAX = Integer.MAX_VALUE;
    private static final String HEAP_OF_13 = "w".repeat(13);
    private static final String[] NO_ROUND_IS_PLAYED = {"", Games.WON, Games.BLOCKED};

    private ScriptEdgesTest() {
    }

    private static void script(String game, int n, long script, int want) {
        Check.due(game + ": runScript(" + n + ", " + script + ")", Games.acted(game).runScript(n, script), want);
    }

    private static void succeed(String game, int... groups) {
        for (int group : groups) {
            script(game, 1, group, -1);
        }
    }

    private static void fail(String game, int... groups) {
        for (int group : groups) {
            script(game, 1, group, 0);
        }
    }

    private static void refused(int n, long script) {
        for (String game : new String[] {"", "d311", Games.WON}) {
            Check.argument(game + ": runScript(" + n + ", " + script + ")", () -> Games.acted(game).runScript(n, script));
        }
    }

    // ---- promise 22

    // "Throws IllegalArgumentException if n is out of range"
    private static void tooFewOrTooManyCommands() {
        for (int n : new int[] {0, 5, -1, MIN, MAX}) {
            refused(n, 0);
            refused(n, 9000);
            refused(n, -1);
        }
    }

    // "or if script is negative"
    private static void aNegativeScript() {
        for (int n = 1; n <= 4; n++) {
            refused(n, -1);
            refused(n, -9000);
            refused(n, Long.MIN_VALUE);
        }
        script("", 1, 0, 0);
    }

    // "or has more than 4 * n digits"
    private static void aScriptOfTooManyDigits() {
        long[] least = {10000L, 100000000L, 1000000000000L, 10000000000000000L};
        for (int n = 1; n <= 4; n++) {
            refused(n, least[n - 1]);
            refused(n, least[n - 1] + 9000);
            refused(n, Long.MAX_VALUE);
            script("", n, least[n - 1] - 1, 0);
        }
        script("", 4, 9000900090009000L, -1);
    }

    // Numbers that are in their range as an int, and are not as a long.
    private static void aScriptBeyondAnInt() {
        refused(1, (1L << 32) + 9000);
        refused(2, (1L << 32) + 90009000);
        script("", 3, 900090009000L, -1);
        script("", 3, 900090009001L, 2);
    }

    // "the first command is the highest group of the number (with zeros before it, if it has fewer digits)"
    private static void zerosAhead() {
        script("", 1, 0, 0);
        script("", 4, 0, 0);
        script("", 2, 9000, 0);
        script("", 2, 90009000, -1);
        script("", 3, 90009000, 0);
        script("", 4, 900090009000L, 0);
    }

    // "Returns the index, from 0, of the first command that fails; NONE if all succeed."
    private static void theFirstThatFails() {
        script("", 4, 9000900090009000L, -1);
        script("", 4, 1900090009000L, 0);
        script("", 4, 9000000190009000L, 1);
        script("", 4, 9000900000019000L, 2);
        script("", 4, 9000900090000001L, 3);
        script("", 4, 9000900000010001L, 2);
        script("", 4, 9001900190019001L, 0);
    }

    // "1 p n n: deal(p, nn)", "The commands 1 to 5 fail if the method would throw an exception"
    private static void deals() {
        for (String game : new String[] {"", "d311", Games.WON, Games.BLOCKED}) {
            succeed(game, 1200, 1299, 1300, 1399, 1400, 1499);
            fail(game, 1000, 1100, 1199, 1500, 1599, 1999);
        }
        script("", 2, 13009000, -1);
        script("", 2, 14116000, -1);
    }

    // "2 b t t: play(tt, b is 1); succeeds if it is laid", "commands with tiles .. that do not exist fail", "a b above 1"
    private static void plays() {
        succeed("d489", 2000, 2100, 2026, 2126);
        succeed("d400", 2027, 2127, 2003);
        fail("d400", 2028, 2128, 2099, 2199, 2227, 2327, 2927);
        fail("d489", 2200, 2900, 2001, 2101);
        fail("d489p00r", 2009);
        fail(Games.COVERED, 2009, 2109);
        fail(Games.AT_THE_EDGE, 2015, 2115);
        for (String game : NO_ROUND_IS_PLAYED) {
            fail(game, 2000, 2002, 2027, 2028);
        }
    }

    // "b is 1": to the left
    private static void playsToTheLeft() {
        script(Games.COVERED.substring(0, Games.COVERED.length() - 9), 4, 2113300020082009L, -1);
        script(Games.COVERED.substring(0, Games.COVERED.length() - 9), 4, 2013300020082009L, 3);
    }

    // "3 0 0 0: draw()", "any other group (also one with another digit where a 0 is written)"
    private static void draws() {
        succeed("d311", 3000);
        succeed("d311wwwwwwwwwwww", 3000);
        fail("d311", 3001, 3009, 3010, 3090, 3100, 3900);
        fail("d311" + HEAP_OF_13, 3000);
        script("d311wwwwwwwwwwww", 2, 30003000, 1);
        for (String game : NO_ROUND_IS_PLAYED) {
            fail(game, 3000);
        }
    }

    // "4 0 0 0: pass()"
    private static void passes() {
        succeed("d311" + HEAP_OF_13, 4000);
        fail("d311" + HEAP_OF_13, 4001, 4009, 4010, 4090, 4100, 4900);
        fail("d311", 4000);
        fail("d311wwwwwwwwwwww", 4000);
        script("d311" + HEAP_OF_13, 3, 400040004000L, -1);
        script("d311" + HEAP_OF_13, 4, 4000400040004000L, 3);
        script("d311wwwwwwwwwwww", 2, 30004000, -1);
        for (String game : NO_ROUND_IS_PLAYED) {
            fail(game, 4000);
        }
    }

    // "5 0 0 n: play(best(), false), n times; fails if best() tells none"
    private static void playsTheBest() {
        succeed("d311", 5001, 5002);
        fail("d311", 5009, 5010, 5011, 5090, 5100, 5101, 5900);
        script("d311", 2, 50029002, -1);
        script("d311", 2, 50029003, 1);
        succeed("d437", 5009);
        fail(Games.COVERED, 5001);
        fail(Games.AT_THE_EDGE, 5001);
        for (String game : NO_ROUND_IS_PLAYED) {
            fail(game, 5001, 5009);
        }
    }

    // "in 5, n as 0 always succeeds"
    private static void playsTheBestNotOnce() {
        for (String game : new String[] {"", "d311", Games.COVERED, Games.AT_THE_EDGE, Games.WON, Games.BLOCKED}) {
            succeed(game, 5000);
        }
    }

    // Ten tiles could be laid one behind the other, but 5 0 1 0 is another group.
    private static void playsTheBestTenTimes() {
        script("d228wwwwwww", 2, 50095001, -1);
        fail("d228wwwwwww", 5010);
    }

    // "play(best(), false)": to the right, where (13, 12) is covered, and not to the left
    private static void playsTheBestToTheRight() {
        String untilTheDouble = Games.COVERED.substring(0, Games.COVERED.length() - 9);
        script(untilTheDouble, 4, 5001300020082009L, 3);
        script(untilTheDouble, 4, 2113300020082009L, -1);
    }

    // A round that is won ends the tiles that best() tells.
    private static void playsTheBestBeyondTheLastTile() {
        String untilTheLast = Games.WON.substring(0, Games.WON.length() - 4);
        script(untilTheLast, 2, 50015000, -1);
        script(untilTheLast, 2, 50015001, 1);
        fail(untilTheLast, 5002);
    }

    // "6 0 0 p: succeeds if it is the turn of the player p", "commands with .. players that do not exist fail"
    private static void asksForTheTurn() {
        succeed("d400", 6000);
        fail("d400", 6001, 6002, 6003, 6004, 6009, 6010, 6090, 6100, 6900);
        succeed("d465p10rp19rp09r", 6003);
        fail("d465p10rp19rp09r", 6000, 6004, 6013, 6103);
        for (String game : NO_ROUND_IS_PLAYED) {
            fail(game, 6000, 6001, 6002, 6003, 6004);
        }
    }

    // "7 p n n: succeeds if the player p has at most nn tiles"
    private static void asksForTheTiles() {
        succeed("d400", 7005, 7099, 7305, 7399);
        fail("d400", 7004, 7000, 7304, 7405, 7499, 7905, 7999);
        succeed("d311" + HEAP_OF_13, 7018);
        fail("d311" + HEAP_OF_13, 7017);
        succeed(Games.WON, 7000, 7102);
        fail(Games.WON, 7101);
    }

    // A player who is not in the round has no tiles, and is a player.
    private static void asksForTheTilesOfOneWhoIsNotInTheRound() {
        succeed("", 7000, 7300);
        fail("", 7400);
        succeed("d211", 7200, 7300);
        fail("d211", 7400);
    }

    // "8 0 0 e: succeeds if the end is e"
    private static void asksForTheEnd() {
        succeed("d489p00r", 8000);
        fail("d489p00r", 8001, 8006, 8009, 8010, 8090, 8100, 8900);
        succeed("d233p27r", 8006);
        fail("d233p27r", 8000, 8005, 8007, 8016, 8106);
        succeed(Games.WON, 8001);
        for (String game : new String[] {"", "d311", Games.WON + "d311"}) {
            fail(game, 8000, 8001, 8006, 8009, 8099);
        }
    }

    // "9 0 n n: succeeds if at least nn tiles are on the table"
    private static void asksForTheTilesOnTheTable() {
        succeed("", 9000);
        fail("", 9001, 9099, 9100, 9900);
        succeed("d311p11r", 9000, 9001);
        fail("d311p11r", 9002, 9101);
        succeed(Games.WON, 9009);
        fail(Games.WON, 9010, 9109);
    }

    // "and so does any other group"
    private static void anyOtherGroup() {
        for (String game : new String[] {"", "d311", Games.WON}) {
            fail(game, 0, 1, 9, 10, 99, 100, 200, 500, 900, 999);
        }
    }

    // "Runs a script on a copy of the state."
    private static void runScriptOnACopy() {
        for (String game : new String[] {"", "d311", Games.COVERED, Games.WON, Games.BLOCKED}) {
            for (long script : new long[] {1311200720098003L, 1411500230009000L, 3000300030003000L, 9999L}) {
                Counted x = Games.acted(game);
                x.runScript(4, script);
                Check.same(game + ": behind runScript(4, " + script + ")", Games.everything(x),
                    Games.everything(Games.acted(game)));
            }
        }
    }

    // ---- promise 23

    // "Throws IllegalArgumentException if m is out of range"
    private static void tooFewOrTooManyTurns() {
        for (String game : new String[] {"", "d311", Games.WON}) {
            for (int m : new int[] {0, 201, -1, MIN, MAX}) {
                Check.argument(game + ": simulate(1, " + m + ")", () -> Games.acted(game).simulate(1, m));
            }
        }
    }

    private static void simulates(String game, long seed, int m, int want) {
        Check.due(game + ": simulate(" + seed + ", " + m + ")", Games.acted(game).simulate(seed, m), want);
    }

    // "seed: any long", "m: number of turns, 1 to 200", "(with long overflow)"
    private static void turnsOfTheEdges() {
        long[] seeds = {0, -1, 1, Long.MIN_VALUE, Long.MAX_VALUE};
        // Told by another program, written from the document in another language.
        int[] one = {10008, 10008, 10008, 10018, 10013};
        int[] twoHundred = {80410, 80704, 80600, 90502, 80508};
        for (int i = 0; i < seeds.length; i++) {
            simulates("", seeds[i], 1, one[i]);
            simulates("", seeds[i], 200, twoHundred[i]);
        }
    }

    // "to the left if q % 2 is 1": with the sides the other way, 11203 and 10900
    private static void turnsToTheLeftOrToTheRight() {
        String untilTheDouble = Games.COVERED.substring(0, Games.COVERED.length() - 9);
        simulates(untilTheDouble, 6, 40, 11003);
        simulates(untilTheDouble, 9, 40, 20117);
    }

    // "Without a round that is played: deal(2 + q % 3, q)": the first turn of the seed 0 has q as 10496987
    private static void theFirstTurnDeals() {
        int players = 2 + 10496987 % 3;
        for (String game : NO_ROUND_IS_PLAYED) {
            simulates(game, 0, 1, 10000 + 28 - 5 * players);
        }
    }

    // "Otherwise, if any tile can be laid .. otherwise draw(), or pass(), if the heap is empty"
    private static void theFirstTurnLaysDrawsOrPasses() {
        simulates("d311", 0, 1, 113);
        simulates(Games.COVERED, 0, 1, 806);
        simulates("d275p25rp05rp03rp21rp17rp08rp11r", 0, 1, 717);
        simulates(Games.BLOCKED.substring(0, Games.BLOCKED.length() - 4), 0, 1, 600);
        simulates(Games.BLOCKED.substring(0, Games.BLOCKED.length() - 1), 0, 1, 600);
        simulates(Games.BLOCKED.substring(0, Games.BLOCKED.length() - 1), 0, 2, 10000 + secondDeal());
    }

    // The heap behind the deal of the second turn of the seed 0.
    private static int secondDeal() {
        long x = 1442695040888963407L * 6364136223846793005L + 1442695040888963407L;
        return 28 - 5 * (2 + (int) (x >>> 33) / 16 % 3);
    }

    // "Simulates m turns on a copy of the state."
    private static void simulateOnACopy() {
        for (String game : new String[] {"", "d311", Games.COVERED, Games.WON, Games.BLOCKED}) {
            for (int m : new int[] {1, 20, 200}) {
                Counted x = Games.acted(game);
                x.simulate(5, m);
                Check.same(game + ": behind simulate(5, " + m + ")", Games.everything(x),
                    Games.everything(Games.acted(game)));
            }
        }
    }

    public static void main(String[] args) {
        tooFewOrTooManyCommands();
        aNegativeScript();
        aScriptOfTooManyDigits();
        aScriptBeyondAnInt();
        zerosAhead();
        theFirstThatFails();
        deals();
        plays();
        playsToTheLeft();
        draws();
        passes();
        playsTheBest();
        playsTheBestNotOnce();
        playsTheBestTenTimes();
        playsTheBestToTheRight();
        playsTheBestBeyondTheLastTile();
        asksForTheTurn();
        asksForTheTiles();
        asksForTheTilesOfOneWhoIsNotInTheRound();
        asksForTheEnd();
        asksForTheTilesOnTheTable();
        anyOtherGroup();
        runScriptOnACopy();
        tooFewOrTooManyTurns();
        turnsOfTheEdges();
        turnsToTheLeftOrToTheRight();
        theFirstTurnDeals();
        theFirstTurnLaysDrawsOrPasses();
        simulateOnACopy();
        Check.end();
    }
}
