/** Games that several tests use, and ways to get there. */
final class Games {
    /** The player 0 has 7 11 13 21 26, 1 has 2 9 10 12 20, 2 has 1 5 14 17 23; the heap begins with 24 3 25. */
    static final String DEALT = "d311";
    /** The player 0 lays the last tile of the hand; 1 still has 2 and 16: 9 pips. */
    static final String WON = "d258p09lp21lp27rp26rp05rp03rp18rwp14rp08r";
    /** 0 and 1 have 16 pips each, 2 has 77, 3 has 23; all have passed. */
    static final String BLOCKED = "d468p01rp08lp14rp20rp23rp24rwwwwwwwwssss";
    /** The chain has turned three times; the next cells are (13, 13), free, and (13, 12), covered. */
    static final String COVERED = "d430p20lp05rp00rp06rp27rp17lp13rwp08l";
    /** The chain has come round to (11, 12); the next cells are those of the first tile. */
    static final String BOTH_COVERED = "d345p22rp19rp18rp14rp13rwp17rp27rp24r";
    /** The chain lies straight to the east up to (23, 12); the player 2 has 13 15 16 23, the end is 2. */
    static final String AT_THE_EDGE = "d465p10rp19rp09rp01rp06rp17r";
    /** The chain turns to the south at once, and lies straight down to (13, 24). */
    static final String AT_THE_SOUTH = "d275p25rp05rp03rp21rp17rp08rp11r";
    /** The chain turns to the north at once, and lies straight up to (13, 0). */
    static final String AT_THE_NORTH = "d275p25lp05rp03rp21rp17rp08rp11r";
    /** The chain has turned to the west, and lies straight to (1, 16). */
    static final String AT_THE_WEST = "d489p00rp01rp07rp12rp26rp05rp02rp08rp10r";

    private Games() {
    }

    static void write(Counted x, String text) {
        for (int i = 0; i < text.length(); i++) {
            x.append(text.charAt(i));
        }
    }

    static Counted written(String text) {
        Counted x = new Counted();
        write(x, text);
        return x;
    }

    /** Does the commands by the actions themselves, each of which must be done. */
    static Counted acted(String commands) {
        Counted x = new Counted();
        act(x, commands);
        return x;
    }

    static void act(Counted x, String commands) {
        for (int i = 0; i < commands.length(); i++) {
            switch (commands.charAt(i)) {
                case 'd':
                    x.deal(commands.charAt(i + 1) - '0', Integer.parseInt(commands.substring(i + 2, i + 4)));
                    i += 3;
                    break;
                case 'p':
                    int t = Integer.parseInt(commands.substring(i + 1, i + 3));
                    Check.due("play(" + t + ") of " + commands, x.play(t, commands.charAt(i + 3) == 'l'), 0);
                    i += 3;
                    break;
                case 'w':
                    x.draw();
                    break;
                case 's':
                    x.pass();
                    break;
                default:
                    Check.due("a command of " + commands, commands.charAt(i), 'd');
            }
        }
    }

    /** What the answers tell of the state, by no more than some 160 calls. */
    static String view(Counted x) {
        StringBuilder told = new StringBuilder();
        int tiles = x.about(5);
        for (int what = 0; what < 12; what++) {
            told.append(x.about(what)).append(' ');
        }
        for (int t = 0; t < 28; t++) {
            told.append(x.tileOf(t, 2)).append(' ').append(x.tileOf(t, 4)).append(' ');
        }
        for (int k = 0; k < tiles; k++) {
            int column = x.laid(k, 1);
            int row = x.laid(k, 2);
            told.append(x.laid(k, 0)).append(' ').append(column).append(' ').append(row).append(' ');
            told.append(x.laid(k, 3)).append(' ').append(x.at(column, row)).append(' ').append(x.laid(k, 5)).append(' ');
        }
        for (int p = 0; p < 4; p++) {
            for (int what = 0; what < 4; what++) {
                told.append(x.playerOf(p, what)).append(' ');
            }
        }
        for (int what = 0; what < 6; what++) {
            told.append(x.reach(what)).append(' ');
        }
        return told.append(x.legal()).append(' ').append(x.best()).append(' ').append(x.free(0)).toString();
    }

    /** What tells most states apart, by nine calls. */
    static String glance(Counted x) {
        StringBuilder told = new StringBuilder();
        for (int what : new int[] {0, 3, 4, 5, 6, 8, 10}) {
            told.append(x.about(what)).append(' ');
        }
        return told.append(x.best()).append(' ').append(x.simulate(3, 9)).append("; ").toString();
    }

    /** The state, the text, what is remembered and what is saved: the object is not as before behind it. */
    static String everything(Counted x) {
        StringBuilder told = new StringBuilder(view(x)).append("; ").append(x.errorPosition()).append("; ");
        for (int k = 0; k < 15; k++) {
            told.append(Check.outcome(() -> x.undo())).append(": ").append(glance(x));
        }
        told.append(Check.outcome(() -> x.restore(0))).append(": ").append(glance(x));
        told.append(Check.outcome(() -> x.restore(1))).append(": ").append(glance(x));
        told.append(Check.outcome(() -> x.load())).append(": ").append(glance(x));
        return told.append(x.clearText()).toString();
    }

    static int setOf(int... tiles) {
        int set = 0;
        for (int t : tiles) {
            set |= 1 << t;
        }
        return set;
    }
}
