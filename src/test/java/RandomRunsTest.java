/** Random runs of at most 512 calls: every answer and every exception as the model of the document has it. */
public final class RandomRunsTest {
    private static final int RUNS = 1500;
    // No step of a run asks more often.
    private static final int MOST_CALLS_OF_A_STEP = 20;
    private static final int[] ODD = {-1, Integer.MIN_VALUE, Integer.MAX_VALUE, 28, 256, 25, 4, 12, 7, 5, 2, 1000};
    private static final String SIGNS = "Ndpwsbrl0123456789 x";

    private static long seed;
    private static Counted x;
    private static Model model;
    private static String call;

    // At least 0, below the bound.
    private static int below(int bound) {
        seed = seed * 6364136223846793005L + 1442695040888963407L;
        return (int) ((seed >>> 33) % bound);
    }

    // Mostly one of the numbers below the bound, seldom another one.
    private static int mostly(int bound) {
        return below(25) == 0 ? ODD[below(ODD.length)] : below(bound);
    }

    private static long anyLong() {
        return below(3) == 0 ? below(100) : (long) below(Integer.MAX_VALUE) * below(Integer.MAX_VALUE) - below(1000);
    }

    private static boolean agree(int run, String told, Check.Call program, Check.Call due) {
        call = told;
        String got = Check.outcome(program);
        String want = Check.outcome(due);
        if (!got.equals(want)) {
            Check.due("run " + run + ": " + told + " (" + got + " for " + want + ")", 1, 0);
            return false;
        }
        return true;
    }

    private static int tile() {
        int set = model.legal();
        if (set != 0 && below(3) > 0) {
            int t = below(28);
            for (int k = 0; k < 28; k++) {
                if ((set >>> (t + k) % 28 & 1) != 0) {
                    return (t + k) % 28;
                }
            }
        }
        return mostly(28);
    }

    private static boolean oneAction(int run) {
        boolean left = below(2) == 0;
        int kind = below(100);
        if (kind < 45) {
            int t = tile();
            return agree(run, "play(" + t + ", " + left + ")", () -> x.play(t, left), () -> model.play(t, left));
        }
        if (kind < 70) {
            return agree(run, "draw()", () -> x.draw(), () -> model.draw());
        }
        if (kind < 82) {
            return agree(run, "pass()", () -> x.pass(), () -> model.pass());
        }
        if (kind < 90) {
            return agree(run, "undo()", () -> x.undo(), () -> model.undo());
        }
        int slot = below(20) == 0 ? mostly(5) : below(2);
        if (kind < 93) {
            return agree(run, "save(" + slot + ")", () -> x.save(slot), () -> model.save(slot));
        }
        if (kind < 95) {
            return agree(run, "restore(" + slot + ")", () -> x.restore(slot), () -> model.restore(slot));
        }
        if (kind < 98 && model.about(1) == 1) {
            return true;
        }
        int players = below(10) == 0 ? mostly(6) : 2 + below(3);
        long dealt = anyLong();
        return agree(run, "deal(" + players + ", " + dealt + ")",
            () -> x.deal(players, dealt), () -> model.deal(players, dealt));
    }

    private static boolean oneQuestion(int run) {
        int a = mostly(28);
        int b = mostly(8);
        switch (below(14)) {
            case 0:
                return agree(run, "about(" + b + ")", () -> x.about(b), () -> model.about(b));
            case 1:
                return agree(run, "about(" + a + ")", () -> x.about(a), () -> model.about(a));
            case 2:
                return agree(run, "tileOf(" + a + ", " + b + ")", () -> x.tileOf(a, b), () -> model.tileOf(a, b));
            case 3:
                int k = below(3) == 0 ? a : below(Math.max(1, model.about(5)));
                return agree(run, "laid(" + k + ", " + b + ")", () -> x.laid(k, b), () -> model.laid(k, b));
            case 4:
                int p = mostly(4);
                return agree(run, "playerOf(" + p + ", " + b + ")", () -> x.playerOf(p, b), () -> model.playerOf(p, b));
            case 5:
                int column = mostly(25);
                int row = mostly(25);
                return agree(run, "at(" + column + ", " + row + ")",
                    () -> x.at(column, row), () -> model.at(column, row));
            case 6:
                int way = mostly(2);
                return agree(run, "free(" + way + ")", () -> x.free(way), () -> model.free(way));
            case 7:
                return agree(run, "why(" + a + ")", () -> x.why(a), () -> model.why(a));
            case 8:
                return agree(run, "legal()", () -> x.legal(), () -> model.legal())
                    && agree(run, "best()", () -> x.best(), () -> model.best());
            case 9:
                int hand = mostly(4);
                return agree(run, "chain(" + hand + ", " + b + ")", () -> x.chain(hand, b), () -> model.chain(hand, b));
            case 10:
                return agree(run, "reach(" + b + ")", () -> x.reach(b), () -> model.reach(b));
            case 11:
            case 12:
                int n = below(20) == 0 ? mostly(6) : 1 + below(4);
                long script = script(n);
                return agree(run, "runScript(" + n + ", " + script + ")",
                    () -> x.runScript(n, script), () -> model.runScript(n, script));
            default:
                int m = below(20) == 0 ? mostly(300) : 1 + below(below(4) == 0 ? 200 : 20);
                long start = anyLong();
                return agree(run, "simulate(" + start + ", " + m + ")",
                    () -> x.simulate(start, m), () -> model.simulate(start, m));
        }
    }

    // Groups that often succeed, with other digits now and then.
    private static long script(int n) {
        if (below(30) == 0) {
            return anyLong();
        }
        long all = 0;
        for (int k = 0; k < Math.min(4, n); k++) {
            int[] groups = {1000 + 100 * (2 + below(3)) + below(100), 2000 + 100 * below(2) + Math.abs(tile() % 100),
                3000, 4000, 5000 + below(4), 6000 + below(5), 7000 + 100 * below(5) + below(10), 8000 + below(8),
                9000 + below(9), Math.max(0, model.best()) + 2000};
            int group = groups[below(groups.length)];
            int changed = new int[] {1, 10, 100, 1000}[below(4)];
            if (below(10) == 0) {
                group = group - group / changed % 10 * changed + below(10) * changed;
            }
            all = all * 10000 + group;
        }
        return all;
    }

    private static boolean oneOfText(int run) {
        int kind = below(40);
        if (kind == 0) {
            return agree(run, "clearText()", () -> x.clearText(), () -> model.clearText());
        }
        if (kind < 6) {
            return agree(run, "errorPosition()", () -> x.errorPosition(), () -> model.errorPosition());
        }
        if (kind < 8) {
            return agree(run, "load()", () -> x.load(), () -> model.load());
        }
        if (kind == 8) {
            int c = mostly(256);
            return agree(run, "append(" + c + ")", () -> x.append(c), () -> model.append(c));
        }
        String piece = piece();
        for (int k = 0; k < piece.length(); k++) {
            int c = piece.charAt(k);
            if (!agree(run, "append(" + c + ")", () -> x.append(c), () -> model.append(c))) {
                return false;
            }
        }
        return true;
    }

    private static String piece() {
        if (below(60) == 0) {
            return SIGNS.substring(below(SIGNS.length())).substring(0, 1);
        }
        String twoDigits = (below(10) + "") + below(10);
        String[] all = {"d" + (2 + below(3)) + twoDigits, "p" + below(2) + below(10) + "r", "p2" + below(8) + "l",
            "w", "s", "b", "bb", "wb", "bwbwb"};
        return all[below(all.length)];
    }

    private static boolean sameState(int run) {
        boolean same = true;
        for (int k = 0; same && k < 12; k++) {
            int what = k;
            same = agree(run, "about(" + k + ") behind " + call, () -> x.about(what), () -> model.about(what));
        }
        return same;
    }

    private static void oneRun(int run) {
        seed = 1000L * run + 7;
        x = new Counted();
        model = new Model();
        boolean same = true;
        boolean withText = run % 3 == 0;
        if (withText) {
            same = agree(run, "append(78)", () -> x.append('N'), () -> model.append('N'));
        }
        while (same && x.callsLeft() >= MOST_CALLS_OF_A_STEP) {
            int kind = below(10);
            if (withText && kind < 5) {
                same = oneOfText(run);
            } else if (kind < 7) {
                same = oneAction(run) && (below(10) > 0 || sameState(run));
            } else {
                same = oneQuestion(run);
            }
        }
    }

    public static void main(String[] args) {
        for (int run = 0; run < RUNS && Check.isClean(); run++) {
            oneRun(run);
        }
        Check.end();
    }
}
