/** Games that several tests use, and ways to get there. */
final class Games {
    /** The player 0 has 7 11 13 21 26, 1 has 2 9 10 12 20, 2 has 1 5 14 17 23; the heap begins with 24 3 25. */
    static final String DEALT = "d311";
    /** The player 0 lays the last tile of the hand; 1 still has 2 and 16: 9 pips. */
    static final String WON = "d258p09lp21lp27rp26rp05rp03rp18rwp14rp08r";
    /** 0 and 1 have 16 pips each, 2 has 77, 3 has 23; all have passed. */
    static final String BLOCKED = "d468p01rp08lp14rp20rp23rp24rwwwwwwwwssss";
    /** The chain has turned three times; the next cells are (13, 13), free, and (13, 12), covered. */
    static final String COVERED = "d430p20lp05rp00rp06rp27rp17lp13rwp08l";
    /** The chain lies straight to the east up to (23, 12); the player 2 has 13 15 16 23, the end is 2. */
    static final String AT_THE_EDGE = "d465p10rp19rp09rp01rp06rp17r";

    private Games() {
    }

    static void write(SpiralDominoes x, String text) {
        for (int i = 0; i < text.length(); i++) {
            x.append(text.charAt(i));
        }
    }

    static SpiralDominoes loaded(String commands) {
        SpiralDominoes x = new SpiralDominoes();
        write(x, "N" + commands);
        Check.due("load() of " + commands, x.load(), 0);
        return x;
    }

    /** Does the commands by the actions themselves, each of which must be done. */
    static SpiralDominoes acted(String commands) {
        SpiralDominoes x = new SpiralDominoes();
        act(x, commands);
        return x;
    }

    static void act(SpiralDominoes x, String commands) {
        for (int i = 0; i < commands.length(); i++) {
            switch (commands.charAt(i)) {
                case 'd':
                    x.deal(commands.charAt(i + 1) - '0', Integer.parseInt(commands.substring(i + 2, i + 4)));
                    i += 3;
                    break;
                case 'p':
                    int t = Integer.parseInt(commands.substring(i + 1, i + 3));
                    Check.due("play(" + t + ") of " + commands, x.play(t, commands.charAt(i + 3) == 'l'), 0);
                    i += 3;
                    break;
                case 'w':
                    x.draw();
                    break;
                case 's':
                    x.pass();
                    break;
                default:
                    Check.due("a command of " + commands, commands.charAt(i), 'd');
            }
        }
    }

    /** Everything that the answers tell of the state. */
    static String view(SpiralDominoes x) {
        StringBuilder told = new StringBuilder();
        for (int what = 0; what < 12; what++) {
            told.append(x.about(what)).append(' ');
        }
        for (int t = 0; t < 28; t++) {
            for (int what = 2; what < 5; what++) {
                told.append(x.tileOf(t, what)).append(' ');
            }
        }
        for (int k = 0; k < x.about(5); k++) {
            for (int what = 0; what < 6; what++) {
                told.append(x.laid(k, what)).append(' ');
            }
        }
        for (int p = 0; p < 4; p++) {
            for (int what = 0; what < 4; what++) {
                told.append(x.playerOf(p, what)).append(' ');
            }
        }
        for (int cell = 0; cell < 625; cell++) {
            told.append(x.at(cell % 25, cell / 25)).append(' ');
        }
        for (int what = 0; what < 6; what++) {
            told.append(x.reach(what)).append(' ');
        }
        return told.append(x.legal()).append(' ').append(x.free(0)).toString();
    }

    static void sameView(String what, String got, String want) {
        Check.due(what + " (1: as due)", got.equals(want) ? 1 : 0, 1);
    }

    static int setOf(int... tiles) {
        int set = 0;
        for (int t : tiles) {
            set |= 1 << t;
        }
        return set;
    }
}
