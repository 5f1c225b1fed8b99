/** Promises 22 and 23: runScript, simulate. */
public final class ScriptTest {
    private static final int MIN = Integer.MIN_VALUE;
    private static final int MAX = Integer.MAX_VALUE;

    private static void script(String game, int n, long script, int want) {
        Counted x = Games.acted(game);
        String before = Games.view(x);
        Check.due(game + ": runScript(" + n + ", " + script + ")", x.runScript(n, script), want);
        Check.same(game + ": runScript(" + n + ", " + script + ") changes nothing", Games.view(x), before);
    }

    private static void commands(String game, boolean good, int... groups) {
        for (int group : groups) {
            script(game, 1, group, good ? -1 : 0);
        }
    }

    private static void promise22DealPlayDrawPass() {
        commands("", true, 1200, 1311, 1499);
        commands("", false, 1000, 1100, 1500, 1999, 2000, 2107, 3000, 4000);
        commands("d311", true, 1200, 2007, 2107, 2026, 2126, 3000);
        commands("d311", false, 2000, 2100, 2027, 2028, 2099, 2207, 2907, 3001, 3010, 3100, 4000);
        commands("d311wwwwwwwwwwwww", true, 4000);
        commands("d311wwwwwwwwwwwww", false, 3000, 4001, 4010, 4100);
        commands(Games.WON, false, 2002, 3000, 4000);
        commands(Games.WON, true, 1200);
        commands(Games.COVERED, false, 2009, 2014);
        script("d311", 2, 20078003, 1);
        script("d311", 2, 20078001, -1);
        script("d311", 3, 200720098003L, -1);
        script("", 2, 13118000, 1);
        script("", 4, 1311200720098003L, -1);
        script("", 4, 1311210720098003L, -1);
        script("", 4, 1311200720096002L, -1);
        script("d465p10rp19rp09rp01r", 3, 200620176002L, -1);
        script("d465p10rp19rp09rp01r", 3, 201720066002L, 0);
        script("d430p20lp05r", 4, 2000200620272017L, -1);
    }

    private static void promise22LeftAndRight() {
        String until = Games.COVERED.substring(0, Games.COVERED.length() - 5);
        script(until, 3, 300020082009L, 2);
        script(until.replace("p13r", "p13l"), 3, 300020082009L, -1);
        script(until.replace("p13r", ""), 4, 2013300020082009L, 3);
        script(until.replace("p13r", ""), 4, 2113300020082009L, -1);
    }

    private static void promise22Best() {
        commands("", true, 5000);
        commands("", false, 5001, 5009);
        commands("d311", true, 5000, 5001, 5002);
        commands("d311", false, 5010, 5100, 5011, 5009);
        commands(Games.COVERED, true, 5000);
        commands(Games.COVERED, false, 5001);
        script("d311", 2, 50018006, -1);
        script("d311", 2, 50028001, -1);
        script("d311", 2, 50029002, -1);
        script("d311", 2, 50029003, 1);
        commands("d437", true, 5009);
        script("d228wwwwwww", 2, 50095001, -1);
        commands("d228wwwwwww", false, 5010, 5100);
        // The doubles of best are laid to the right.
        String until = "d430p20lp05rp00rp06rp27rp17l";
        script(until, 4, 5001300020082009L, 3);
        script(until, 4, 2113300020082009L, -1);
    }

    private static void promise22Questions() {
        commands("", false, 6000, 6001, 6009, 8000, 8006, 8009, 7400, 7999, 9001);
        commands("", true, 7000, 7100, 7200, 7300, 7005, 9000);
        commands("d311", true, 6000, 7005, 7199, 7300, 9000);
        commands("d311", false, 6001, 6002, 6003, 6010, 6100, 7004, 7100, 7405, 7905, 8000, 9001, 9100);
        commands("d311p11r", true, 6001, 7004, 7105, 8005, 9000, 9001);
        commands("d311p11r", false, 6000, 7003, 7104, 8001, 8000, 8015, 8105, 9002, 9010, 9101);
        commands("d311wwwww", true, 7010, 7011);
        commands("d311wwwww", false, 7009);
        commands(Games.WON, true, 7000, 7102, 8001, 9009);
        commands(Games.WON, false, 6000, 6001, 7101, 9010);
        commands("d311", false, 0, 1, 7, 999);
    }

    private static void promise22WrongArguments() {
        Counted x = Games.acted("d311");
        for (int n : new int[] {0, -1, 5, MIN, MAX}) {
            Check.argument("runScript(" + n + ", 0)", () -> x.runScript(n, 0));
        }
        long tooMuch = 1;
        for (int n = 1; n <= 4; n++) {
            tooMuch *= 10000;
            int many = n;
            long script = tooMuch;
            Check.argument("runScript(" + n + ", " + script + ")", () -> x.runScript(many, script));
            Check.due("runScript(" + n + ", " + (script - 1) + ")", x.runScript(many, script - 1), 0);
            Check.argument("runScript(" + n + ", -1)", () -> x.runScript(many, -1));
            Check.argument("runScript(" + n + ", least)", () -> x.runScript(many, Long.MIN_VALUE));
            Check.argument("runScript(" + n + ", greatest)", () -> x.runScript(many, Long.MAX_VALUE));
        }
        // The zeros ahead are commands too, which fail.
        Check.due("runScript(2, 3000)", x.runScript(2, 3000), 0);
        Check.due("runScript(2, 30003000)", x.runScript(2, 30003000), -1);
        Check.due("runScript(4, 3000300030000000)", x.runScript(4, 3000300030000000L), 3);
    }

    private static void simulates(String game, long seed, int m, int want) {
        Counted x = Games.acted(game);
        String before = Games.view(x);
        Check.due(game + ": simulate(" + seed + ", " + m + ")", x.simulate(seed, m), want);
        Check.same(game + ": simulate(" + seed + ", " + m + ") changes nothing", Games.view(x), before);
    }

    // One turn after the other by the calls of the face, as promise 23 tells them.
    private static int byCalls(String game, long seed, int m) {
        Counted x = Games.acted(game);
        int before = x.about(0);
        long number = seed;
        for (int k = 0; k < m; k++) {
            number = number * 6364136223846793005L + 1442695040888963407L;
            int r = (int) (number >>> 33);
            int q = r / 16;
            int set = x.legal();
            if (x.about(1) != 1) {
                x.deal(2 + q % 3, q);
            } else if (set != 0) {
                for (int skipped = r % 16 % Integer.bitCount(set); skipped > 0; skipped--) {
                    set -= Integer.lowestOneBit(set);
                }
                x.play(Integer.numberOfTrailingZeros(set), q % 2 == 1);
            } else if (x.about(4) > 0) {
                x.draw();
            } else {
                x.pass();
            }
        }
        return 10000 * (x.about(0) - before) + 100 * x.about(5) + x.about(4);
    }

    private static int byModel(String game, long seed, int m) {
        Model model = new Model();
        model.append('N');
        for (int i = 0; i < game.length(); i++) {
            model.append(game.charAt(i));
        }
        Check.due("load() of the model", model.load(), 0);
        return model.simulate(seed, m);
    }

    private static void promise23Simulate() {
        String[] games = {"", "d311", Games.WON, Games.BLOCKED, Games.COVERED, Games.AT_THE_EDGE};
        long[] seeds = {0, 1, -1, 77, Long.MIN_VALUE, Long.MAX_VALUE};
        for (String game : games) {
            for (long seed : seeds) {
                for (int m : new int[] {1, 2, 10, 37, 100}) {
                    simulates(game, seed, m, byCalls(game, seed, m));
                }
                simulates(game, seed, 200, byModel(game, seed, 200));
            }
        }
        // A bare table is its own mirror image: only from a chain that has turned, left and right make a difference.
        for (int seed = 0; seed < 300; seed++) {
            simulates("", seed, 100, byCalls("", seed, 100));
            simulates("", seed, 200, byModel("", seed, 200));
            simulates(Games.COVERED, seed, 20, byCalls(Games.COVERED, seed, 20));
            simulates("d430p20lp05rp00rp06rp27rp17l", seed, 6, byCalls("d430p20lp05rp00rp06rp27rp17l", seed, 6));
        }
        Counted x = Games.acted("d311");
        for (int m : new int[] {0, 201, -1, MIN, MAX}) {
            Check.argument("simulate(1, " + m + ")", () -> x.simulate(1, m));
        }
    }

    // x is 1442695040888963407, r is 167951807, and q is 10496987: 2 + q % 3 players.
    private static void promise23ByHand() {
        int players = 2 + 10496987 % 3;
        simulates("", 0, 1, 10000 + 28 - 5 * players);
        simulates(Games.BLOCKED, 0, 1, 10000 + 28 - 5 * players);
        simulates("d311", 0, 1, 113);
        simulates(Games.COVERED, 0, 1, 806);
    }

    public static void main(String[] args) {
        promise22DealPlayDrawPass();
        promise22LeftAndRight();
        promise22Best();
        promise22Questions();
        promise22WrongArguments();
        promise23Simulate();
        promise23ByHand();
        Check.end();
    }
}
