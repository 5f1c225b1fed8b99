/** Promises 1 to 5: a new object, append, clearText, errorPosition, load. */
public final class TextTest {
    private static final int MIN = Integer.MIN_VALUE;
    private static final int MAX = Integer.MAX_VALUE;

    private static void promise1NewObject() {
        Counted x = new Counted();
        int[] about = {0, 0, 0, -1, 0, 0, -1, 0, 0, 0, 0, 0};
        for (int what = 0; what < 12; what++) {
            Check.due("new: about(" + what + ")", x.about(what), about[what]);
        }
        for (int t = 0; t < 28; t++) {
            for (int what = 2; what < 5; what++) {
                Check.due("new: tileOf(" + t + ", " + what + ")", x.tileOf(t, what), -1);
            }
        }
        for (int p = 0; p < 4; p++) {
            for (int what = 0; what < 4; what++) {
                Check.due("new: playerOf(" + p + ", " + what + ")", x.playerOf(p, what), 0);
            }
        }
        Check.due("new: free(0)", x.free(0), 625);
        Check.due("new: at(12, 12)", x.at(12, 12), -1);
        Check.due("new: legal()", x.legal(), 0);
        Check.due("new: clearText()", x.clearText(), 0);
        Check.state("new: undo()", () -> x.undo());
        Check.state("new: draw()", () -> x.draw());
        Check.state("new: pass()", () -> x.pass());
        Check.state("new: play(0)", () -> x.play(0, false));
        Check.state("new: restore(0)", () -> x.restore(0));
        Check.state("new: restore(1)", () -> x.restore(1));
    }

    private static void promise2Append() {
        Counted x = new Counted();
        Check.argument("append(-1)", () -> x.append(-1));
        Check.argument("append(256)", () -> x.append(256));
        Check.argument("append(MIN)", () -> x.append(MIN));
        Check.argument("append(MAX)", () -> x.append(MAX));
        Check.due("append(0)", x.append(0), 1);
        Check.due("append(255)", x.append(255), 2);
        for (int i = 3; i <= 120; i++) {
            Check.due("append(65) as number " + i, x.append(65), i);
        }
        Check.state("append(65) as number 121", () -> x.append(65));
        Check.argument("append(256) to a full text", () -> x.append(256));
        Check.argument("append(-1) to a full text", () -> x.append(-1));
        Check.due("clearText() of a full text", x.clearText(), 120);
        Check.due("append(78) behind it", x.append(78), 1);
    }

    private static void promise3ClearText() {
        Counted x = new Counted();
        Games.write(x, "Nx");
        Check.due("clearText()", x.clearText(), 2);
        Check.due("clearText() again", x.clearText(), 0);
        Check.due("errorPosition() of no text", x.errorPosition(), 0);
        Check.due("append(78)", x.append(78), 1);
        Check.due("errorPosition() of N", x.errorPosition(), -1);
        Games.act(x, Games.WON);
        String before = Games.view(x);
        Check.due("clearText() in a round", x.clearText(), 1);
        Check.same("clearText() changes nothing else", Games.view(x), before);
    }

    private static void error(String text, int want) {
        Counted x = new Counted();
        Games.write(x, text);
        Check.due("errorPosition() of " + text, x.errorPosition(), want);
        Check.due("the text behind errorPosition() of " + text, x.clearText(), text.length());
    }

    private static void promise4ErrorPosition() {
        String[] games = {"N", "Nw", "Ns", "Nb", "Nwsb", "Nd200", "Nd499", "Nd311w", "Np00r", "Np27l", "Np19rp20l",
            "Np09rsd350"};
        for (String game : games) {
            error(game, -1);
        }
        error("", 0);
        error("n", 0);
        error(" N", 0);
        error("w", 0);
        String[] tooShort = {"Nd", "Nd2", "Nd21", "Np", "Np1", "Np11", "Nwd", "Nd211p2"};
        for (String text : tooShort) {
            error(text, text.length());
        }
        String[] wrongAtTheEnd = {"NN", "N ", "Nr", "Nl", "N2", "Nx", "ND", "Nd1", "Nd5", "Nd0", "Nd9", "Ndw", "Nd2w",
            "Nd2:", "Nd2/", "Nd20x", "Nd200r", "Np3", "Np9", "Npr", "Np2r", "Np28", "Np29", "Np1x", "Np27b", "Np00w",
            "Np00R", "Nw ", "Nwsb\n", "Np:", "Np/", "Nd311w3"};
        for (String text : wrongAtTheEnd) {
            error(text, text.length() - 1);
        }
        error("Nxd211", 1);
        error("Np28rwww", 3);
        error("xN", 0);
        error("Nw" + (char) 0, 2);
        error("Nw" + (char) 255, 2);
        error("N" + "w".repeat(119), -1);
        error("N" + "w".repeat(118) + "d", 120);
        error("N" + "w".repeat(118) + "x", 119);
    }

    private static void promise5LoadThatThrows() {
        Counted x = Games.acted(Games.BLOCKED);
        x.save(0);
        x.deal(2, 5);
        String before = Games.view(x);
        Games.write(x, "Nd211p");
        Check.state("load() of no game", () -> x.load());
        Check.same("a load() that throws changes nothing", Games.view(x), before);
        Check.due("undo() behind a load() that throws", x.undo(), 13);
        Check.due("restore(0) behind a load() that throws", x.restore(0), 1);
        Check.due("the text behind a load() that throws", x.clearText(), 6);
        Check.state("load() of no text", () -> x.load());
    }

    private static void promise5LoadMakesNew() {
        Counted refused = Games.acted("d311w");
        Check.due("play() refused", refused.play(0, false), 1);
        Games.write(refused, "N");
        Check.due("load() of N", refused.load(), 0);
        Check.same("load() of N behind a refused play()", Games.view(refused), Games.view(new Counted()));
        Counted x = Games.acted(Games.BLOCKED);
        x.save(0);
        x.save(1);
        Games.write(x, "N");
        Check.due("load() of N", x.load(), 0);
        Check.same("load() of N", Games.view(x), Games.view(new Counted()));
        Check.state("undo() behind load()", () -> x.undo());
        Check.state("restore(0) behind load()", () -> x.restore(0));
        Check.state("restore(1) behind load()", () -> x.restore(1));
        Games.write(x, "d311");
        Check.due("load() of Nd311", x.load(), 0);
        Check.same("load() of Nd311", Games.view(x), Games.view(Games.acted("d311")));
        Check.state("undo() behind load() of Nd311", () -> x.undo());
        Check.due("the text behind load()", x.clearText(), 5);
    }

    private static void loads(String text, int leftOut, String sameAs) {
        Counted x = new Counted();
        Games.write(x, text);
        for (int k = 0; k < 2; k++) {
            Check.due("load() of " + text, x.load(), leftOut);
            Check.same("load() of " + text, Games.view(x), Games.view(Games.acted(sameAs)));
        }
    }

    private static void promise5LoadDoesTheCommands() {
        String[] games = {Games.WON, Games.BLOCKED, Games.COVERED, Games.AT_THE_EDGE, "d311p07l", "d311p07r", "d499",
            "d200w", "d311ww", "d311d250", Games.WON + "d307w"};
        for (String game : games) {
            loads("N" + game, 0, game);
        }
        loads("Nd311b", 0, "d311p26r");
        loads("Nd233bbwwwb", 0, "d233p27rwwwp21r");
    }

    private static void promise5LoadLeavesOut() {
        loads("Nwsp00rb", 3, "");
        loads("Nbbb", 0, "");
        loads("Nd311s", 1, "d311");
        loads("Nd311p00rp27lp13rp13l", 3, "d311p13r");
        loads("Nd311p13rp12r", 1, "d311p13r");
        loads("N" + Games.COVERED + "p09rp12lb", 2, Games.COVERED);
        loads("N" + Games.WON + "wsp02rbb", 3, Games.WON);
        loads("N" + Games.BLOCKED + "swp02r", 3, Games.BLOCKED);
        loads("Nwd465w", 1, "d465w");
    }

    public static void main(String[] args) {
        promise1NewObject();
        promise2Append();
        promise3ClearText();
        promise4ErrorPosition();
        promise5LoadThatThrows();
        promise5LoadMakesNew();
        promise5LoadDoesTheCommands();
        promise5LoadLeavesOut();
        Check.end();
    }
}
