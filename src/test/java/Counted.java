/** An object of the class, asked at most as often as the document promises anything of its answers. */
final class Counted {
    private static final int LIMIT = 512;

    private final SpiralDominoes x = new SpiralDominoes();
    private int calls;

    int callsLeft() {
        return LIMIT - calls;
    }

    private SpiralDominoes next() {
        if (calls == LIMIT) {
            throw new AssertionError("a test asks an object more than " + LIMIT + " times");
        }
        calls++;
        return x;
    }

    int append(int c) {
        return next().append(c);
    }

    int clearText() {
        return next().clearText();
    }

    int errorPosition() {
        return next().errorPosition();
    }

    int load() {
        return next().load();
    }

    int about(int what) {
        return next().about(what);
    }

    int tileOf(int t, int what) {
        return next().tileOf(t, what);
    }

    int laid(int k, int what) {
        return next().laid(k, what);
    }

    int playerOf(int p, int what) {
        return next().playerOf(p, what);
    }

    int at(int column, int row) {
        return next().at(column, row);
    }

    int free(int way) {
        return next().free(way);
    }

    int deal(int players, long seed) {
        return next().deal(players, seed);
    }

    int play(int t, boolean left) {
        return next().play(t, left);
    }

    int draw() {
        return next().draw();
    }

    int pass() {
        return next().pass();
    }

    int undo() {
        return next().undo();
    }

    int why(int t) {
        return next().why(t);
    }

    int legal() {
        return next().legal();
    }

    int best() {
        return next().best();
    }

    int chain(int p, int max) {
        return next().chain(p, max);
    }

    int reach(int what) {
        return next().reach(what);
    }

    int runScript(int n, long script) {
        return next().runScript(n, script);
    }

    int simulate(long seed, int m) {
        return next().simulate(seed, m);
    }

    int save(int slot) {
        return next().save(slot);
    }

    int restore(int slot) {
        return next().restore(slot);
    }
}
