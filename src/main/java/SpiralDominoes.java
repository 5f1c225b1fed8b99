import java.util.Arrays;

/** Dominoes laid in a spiral whose doubles turn the corner. */
public final class SpiralDominoes {
    public static final int NONE = -1;

    private static final int TILES = 28;
    private static final int MOST_PIPS = 6;
    private static final int FEWEST_PLAYERS = 2;
    private static final int MOST_PLAYERS = 4;
    private static final int HAND = 5;
    private static final int SIDE = 25;
    private static final int MIDDLE = 12;
    private static final int SLOTS = 2;
    private static final int REMEMBERED = 14;
    private static final int MOST_TURNS = 200;
    private static final int LONGEST_CHAIN = 6;
    private static final int MOST_COMMANDS = 4;
    private static final int GROUP = 10000;

    private static final long FACTOR = 6364136223846793005L;
    private static final long ADDEND = 1442695040888963407L;

    private static final int NO_ROUND = 0;
    private static final int PLAYED = 1;
    private static final int OVER = 2;

    private static final int NO_REASON = 0;
    private static final int NOT_HELD = 1;
    private static final int NOT_FITTING = 2;
    private static final int NO_ROOM = 3;

    private static final int RIGHT = 1;
    private static final int LEFT = 3;

    private static final int[] LOW = {
        0, 0, 0, 0, 0, 0, 0, 1, 1, 1, 1, 1, 1, 2, 2, 2, 2, 2, 3, 3, 3, 3, 4, 4, 4, 5, 5, 6
    };
    private static final int[] HIGH = {
        0, 1, 2, 3, 4, 5, 6, 1, 2, 3, 4, 5, 6, 2, 3, 4, 5, 6, 3, 4, 5, 6, 4, 5, 6, 5, 6, 6
    };

    private final Text text = new Text();
    private final Game now = new Game();
    // Scripts and simulations run here, so that no call makes a state anew.
    private final Game trial = new Game();
    private final History history = new History();
    private final Slot firstSlot = new Slot();
    private final Slot secondSlot = new Slot();

    public SpiralDominoes() {
    }

    // ---- text

    public int append(int c) throws IllegalArgumentException, IllegalStateException {
        if (c < 0 || c > 255) {
            throw new IllegalArgumentException("no character code");
        }
        if (text.isFull()) {
            throw new IllegalStateException("the text is full");
        }
        return text.add(c);
    }

    public int clearText() {
        return text.becomeEmpty();
    }

    public int errorPosition() {
        return text.firstError();
    }

    public int load() throws IllegalStateException {
        if (text.firstError() != NONE) {
            throw new IllegalStateException("the text is not a game");
        }
        now.becomeNew();
        history.forget();
        firstSlot.becomeEmpty();
        secondSlot.becomeEmpty();
        return doCommandsOfText();
    }

    private int doCommandsOfText() {
        int leftOut = 0;
        int begin = 1;
        for (int i = 1; i < text.size(); i++) {
            if (text.isEndOfCommand(begin, i)) {
                if (!doCommandAt(begin)) {
                    leftOut++;
                }
                begin = i + 1;
            }
        }
        return leftOut;
    }

    // Tells whether the command was done, and not left out.
    private boolean doCommandAt(int begin) {
        switch (text.signAt(begin)) {
            case 'd':
                return now.startRound(text.digitAt(begin + 1), text.numberAt(begin + 2));
            case 'p':
                return now.layIfPossible(text.numberAt(begin + 1), text.signAt(begin + 3) == 'l');
            case 'w':
                return now.takeFromHeap() != NONE;
            case 's':
                return now.skipTurn() != NONE;
            default:
                now.layIfPossible(now.heaviestPlayable(), false);
                return true;
        }
    }

    // ---- what there is

    public int about(int what) throws IllegalArgumentException {
        if (what < 0 || what > 11) {
            throw new IllegalArgumentException("no such number");
        }
        return now.numberOfGame(what);
    }

    public int tileOf(int t, int what) throws IndexOutOfBoundsException, IllegalArgumentException {
        if (!isTile(t)) {
            throw new IndexOutOfBoundsException("no such tile");
        }
        if (what < 0 || what > 4) {
            throw new IllegalArgumentException("no such number");
        }
        return now.numberOfTile(t, what);
    }

    public int laid(int k, int what) throws IndexOutOfBoundsException, IllegalArgumentException {
        if (k < 0 || k >= now.line().size()) {
            throw new IndexOutOfBoundsException("not so many tiles are on the table");
        }
        if (what < 0 || what > 5) {
            throw new IllegalArgumentException("no such number");
        }
        return now.line().numberOfPlace(k, what);
    }

    public int playerOf(int p, int what) throws IndexOutOfBoundsException, IllegalArgumentException {
        if (!isPlayer(p)) {
            throw new IndexOutOfBoundsException("no such player");
        }
        if (what < 0 || what > 3) {
            throw new IllegalArgumentException("no such number");
        }
        return now.numberOfPlayer(p, what);
    }

    public int at(int x, int y) throws IndexOutOfBoundsException {
        if (!isCell(x, y)) {
            throw new IndexOutOfBoundsException("no such cell");
        }
        return now.line().pipsAt(x, y);
    }

    public int free(int way) throws IllegalArgumentException {
        if (way != 0 && way != 1) {
            throw new IllegalArgumentException("no such way");
        }
        return way == 0 ? now.line().freeByCells() : now.line().freeByTiles();
    }

    // ---- actions

    public int deal(int players, long seed) throws IllegalArgumentException {
        if (!isNumberOfPlayers(players)) {
            throw new IllegalArgumentException("not 2 to 4 players");
        }
        history.remember(now);
        now.startRound(players, seed);
        return now.roundsSoFar();
    }

    public int play(int t, boolean left) throws IndexOutOfBoundsException, IllegalStateException {
        if (!isTile(t)) {
            throw new IndexOutOfBoundsException("no such tile");
        }
        if (!now.isPlayed()) {
            throw new IllegalStateException("no round is played");
        }
        history.remember(now);
        return now.layOrRefuse(t, left);
    }

    public int draw() throws IllegalStateException {
        if (!now.canTakeFromHeap()) {
            throw new IllegalStateException("no tile can be drawn");
        }
        history.remember(now);
        return now.takeFromHeap();
    }

    public int pass() throws IllegalStateException {
        if (!now.canSkipTurn()) {
            throw new IllegalStateException("no player can pass");
        }
        history.remember(now);
        return now.skipTurn();
    }

    public int undo() throws IllegalStateException {
        if (history.size() == 0) {
            throw new IllegalStateException("no state is remembered");
        }
        return history.takeBack(now);
    }

    // ---- what would be

    public int why(int t) throws IndexOutOfBoundsException {
        if (!isTile(t)) {
            throw new IndexOutOfBoundsException("no such tile");
        }
        return now.reasonAgainst(t);
    }

    public int legal() {
        return now.playable();
    }

    public int best() {
        return now.heaviestPlayable();
    }

    public int chain(int p, int max) throws IndexOutOfBoundsException, IllegalArgumentException {
        if (!isPlayer(p)) {
            throw new IndexOutOfBoundsException("no such player");
        }
        if (max < 1 || max > LONGEST_CHAIN) {
            throw new IllegalArgumentException("not 1 to 6 tiles");
        }
        return now.longestChainOf(p, max);
    }

    public int reach(int what) throws IllegalArgumentException {
        if (what < 0 || what > 5) {
            throw new IllegalArgumentException("no such number");
        }
        return now.line().numberOfReach(what);
    }

    // ---- scripts, simulations

    public int runScript(int n, long script) throws IllegalArgumentException {
        if (n < 1 || n > MOST_COMMANDS) {
            throw new IllegalArgumentException("not 1 to 4 commands");
        }
        if (script < 0 || withoutGroups(script, n) > 0) {
            throw new IllegalArgumentException("negative, or too many digits");
        }
        trial.becomeLike(now);
        for (int i = 0; i < n; i++) {
            if (!succeeds((int) (withoutGroups(script, n - 1 - i) % GROUP))) {
                return i;
            }
        }
        return NONE;
    }

    private static long withoutGroups(long script, int groups) {
        long rest = script;
        for (int k = 0; k < groups; k++) {
            rest /= GROUP;
        }
        return rest;
    }

    // No player and no end has two digits, so that the zeros of 6 and 8 need no test of their own.
    private boolean succeeds(int group) {
        int second = group / 100 % 10;
        int lastTwo = group % 100;
        switch (group / 1000) {
            case 1:
                return trial.startRound(second, lastTwo);
            case 2:
                return second <= 1 && trial.layIfPossible(lastTwo, second == 1);
            case 3:
                return group == 3000 && trial.takeFromHeap() != NONE;
            case 4:
                return group == 4000 && trial.skipTurn() != NONE;
            case 5:
                return second == 0 && lastTwo <= 9 && trial.layHeaviest(lastTwo);
            case 6:
                return second == 0 && trial.playerToMove() == lastTwo;
            case 7:
                return isPlayer(second) && trial.tilesOf(second) <= lastTwo;
            case 8:
                return second == 0 && trial.line().endOfNow() == lastTwo;
            case 9:
                return second == 0 && trial.line().size() >= lastTwo;
            default:
                return false;
        }
    }

    public int simulate(long seed, int m) throws IllegalArgumentException {
        if (m < 1 || m > MOST_TURNS) {
            throw new IllegalArgumentException("not 1 to 200 turns");
        }
        trial.becomeLike(now);
        long x = seed;
        for (int k = 0; k < m; k++) {
            x = x * FACTOR + ADDEND;
            simulateTurn((int) (x >>> 33));
        }
        int dealt = trial.roundsSoFar() - now.roundsSoFar();
        return 10000 * dealt + 100 * trial.line().size() + trial.heapSize();
    }

    private void simulateTurn(int r) {
        int q = r / 16;
        if (!trial.isPlayed()) {
            trial.startRound(2 + q % 3, q);
            return;
        }
        int set = trial.playable();
        int many = Integer.bitCount(set);
        if (many > 0) {
            trial.layIfPossible(memberOf(set, r % 16 % many), q % 2 == 1);
        } else if (trial.canTakeFromHeap()) {
            trial.takeFromHeap();
        } else {
            trial.skipTurn();
        }
    }

    // The tile of a set that has so many lower ones in it.
    private static int memberOf(int set, int lower) {
        int left = lower;
        for (int t = 0; t < TILES; t++) {
            if ((set >>> t & 1) != 0) {
                if (left == 0) {
                    return t;
                }
                left--;
            }
        }
        return NONE;
    }

    // ---- save slots

    public int save(int slot) throws IndexOutOfBoundsException {
        if (slot < 0 || slot >= SLOTS) {
            throw new IndexOutOfBoundsException("no such save slot");
        }
        slotOf(slot).keep(now);
        return now.roundsSoFar();
    }

    public int restore(int slot) throws IndexOutOfBoundsException, IllegalStateException {
        if (slot < 0 || slot >= SLOTS) {
            throw new IndexOutOfBoundsException("no such save slot");
        }
        if (!slotOf(slot).isFull()) {
            throw new IllegalStateException("nothing has been saved");
        }
        slotOf(slot).giveBack(now);
        history.forget();
        return now.roundsSoFar();
    }

    private Slot slotOf(int slot) {
        return slot == 0 ? firstSlot : secondSlot;
    }

    // ---- tiles, players, cells

    private static boolean isTile(int t) {
        return t >= 0 && t < TILES;
    }

    private static boolean isPlayer(int p) {
        return p >= 0 && p < MOST_PLAYERS;
    }

    private static boolean isNumberOfPlayers(int players) {
        return players >= FEWEST_PLAYERS && players <= MOST_PLAYERS;
    }

    private static boolean isCell(int x, int y) {
        return x >= 0 && x < SIDE && y >= 0 && y < SIDE;
    }

    private static int lowOf(int t) {
        return t >= 0 && t < TILES ? LOW[t] : 0;
    }

    private static int highOf(int t) {
        return t >= 0 && t < TILES ? HIGH[t] : 0;
    }

    private static int pipsOn(int t) {
        return t >= 0 && t < TILES ? LOW[t] + HIGH[t] : 0;
    }

    // Ahead of the tiles whose lesser half is low there are 7 + 6 + .. others, low numbers of them.
    private static int tileWith(int a, int b) {
        int low = Math.min(a, b);
        return low * (15 - low) / 2 + Math.max(a, b) - low;
    }

    private static int stepX(int way) {
        return way == 0 ? 1 : way == 2 ? -1 : 0;
    }

    private static int stepY(int way) {
        return way == 1 ? 1 : way == 3 ? -1 : 0;
    }

    /** The text buffer, and the rules of a game as a text. */
    private static final class Text {
        private static final int LIMIT = 120;

        private final int[] signs = new int[LIMIT];
        private int length;

        boolean isFull() {
            return length >= LIMIT;
        }

        int size() {
            return length;
        }

        int add(int c) {
            if (length >= 0 && length < LIMIT) {
                signs[length] = c;
                length++;
            }
            return length;
        }

        int becomeEmpty() {
            int before = length;
            length = 0;
            return before;
        }

        int signAt(int i) {
            return i >= 0 && i < length && i < LIMIT ? signs[i] : 0;
        }

        int digitAt(int i) {
            return signAt(i) - '0';
        }

        int numberAt(int i) {
            return 10 * digitAt(i) + digitAt(i + 1);
        }

        int firstError() {
            if (signAt(0) != 'N') {
                return 0;
            }
            int begin = 1;
            for (int i = 1; i < length; i++) {
                if (!isAllowed(begin, i)) {
                    return i;
                }
                if (isEndOfCommand(begin, i)) {
                    begin = i + 1;
                }
            }
            return begin == length ? NONE : length;
        }

        boolean isEndOfCommand(int begin, int i) {
            return i - begin + 1 == lengthOfCommand(signAt(begin));
        }

        private static int lengthOfCommand(int letter) {
            switch (letter) {
                case 'd':
                case 'p':
                    return 4;
                case 'w':
                case 's':
                case 'b':
                    return 1;
                default:
                    return 0;
            }
        }

        // Whether the sign at i may stand in the command that begins at begin.
        private boolean isAllowed(int begin, int i) {
            if (i == begin) {
                return lengthOfCommand(signAt(i)) > 0;
            }
            if (signAt(begin) == 'd') {
                return i == begin + 1 ? isDigit(i, FEWEST_PLAYERS, MOST_PLAYERS) : isDigit(i, 0, 9);
            }
            if (i == begin + 1) {
                return isDigit(i, 0, 2);
            }
            if (i == begin + 2) {
                return isDigit(i, 0, signAt(begin + 1) == '2' ? 7 : 9);
            }
            return signAt(i) == 'r' || signAt(i) == 'l';
        }

        private boolean isDigit(int i, int least, int greatest) {
            return digitAt(i) >= least && digitAt(i) <= greatest;
        }
    }

    /** The tiles on the table, in the order in which they were laid. */
    private static final class Line {
        private int size;
        private int end = NONE;
        private int direction;
        // The cell on which the first half of the next tile would lie.
        private int nextX = MIDDLE;
        private int nextY = MIDDLE;
        private final int[] tiles = new int[TILES];
        private final int[] xs = new int[TILES];
        private final int[] ys = new int[TILES];
        private final int[] ways = new int[TILES];
        private final int[] firsts = new int[TILES];
        // A row of the table each, with the bit x for the covered cell of the column x.
        private final int[] covered = new int[SIDE];

        int size() {
            return size;
        }

        int endOfNow() {
            return end;
        }

        int directionOfNow() {
            return direction;
        }

        void becomeEmpty() {
            size = 0;
            end = NONE;
            direction = 0;
            nextX = MIDDLE;
            nextY = MIDDLE;
            Arrays.fill(covered, 0);
        }

        void becomeLike(Line other) {
            size = other.size;
            end = other.end;
            direction = other.direction;
            nextX = other.nextX;
            nextY = other.nextY;
            System.arraycopy(other.tiles, 0, tiles, 0, TILES);
            System.arraycopy(other.xs, 0, xs, 0, TILES);
            System.arraycopy(other.ys, 0, ys, 0, TILES);
            System.arraycopy(other.ways, 0, ways, 0, TILES);
            System.arraycopy(other.firsts, 0, firsts, 0, TILES);
            System.arraycopy(other.covered, 0, covered, 0, SIDE);
        }

        boolean fits(int t) {
            return size == 0 || lowOf(t) == end || highOf(t) == end;
        }

        boolean hasRoom() {
            return isFree(nextX, nextY) && isFree(nextX + stepX(direction), nextY + stepY(direction));
        }

        void add(int t, boolean left) {
            if (size < 0 || size >= TILES) {
                return;
            }
            int first = size == 0 ? lowOf(t) : end;
            int secondX = nextX + stepX(direction);
            int secondY = nextY + stepY(direction);
            tiles[size] = t;
            xs[size] = nextX;
            ys[size] = nextY;
            ways[size] = direction;
            firsts[size] = first;
            size++;
            cover(nextX, nextY);
            cover(secondX, secondY);
            end = pipsOn(t) - first;
            if (lowOf(t) == highOf(t)) {
                direction = (direction + (left ? LEFT : RIGHT)) & 3;
            }
            nextX = secondX + stepX(direction);
            nextY = secondY + stepY(direction);
        }

        int placeOf(int t) {
            for (int k = 0; k < size && k < TILES; k++) {
                if (tiles[k] == t) {
                    return k;
                }
            }
            return NONE;
        }

        int numberOfPlace(int k, int what) {
            if (k < 0 || k >= size || k >= TILES) {
                return NONE;
            }
            switch (what) {
                case 0:
                    return tiles[k];
                case 1:
                    return xs[k];
                case 2:
                    return ys[k];
                case 3:
                    return ways[k];
                case 4:
                    return firsts[k];
                default:
                    return pipsOn(tiles[k]) - firsts[k];
            }
        }

        int pips() {
            int sum = 0;
            for (int k = 0; k < size && k < TILES; k++) {
                sum += pipsOn(tiles[k]);
            }
            return sum;
        }

        int pipsAt(int x, int y) {
            for (int k = 0; k < size && k < TILES; k++) {
                if (xs[k] == x && ys[k] == y) {
                    return firsts[k];
                }
                if (xs[k] + stepX(ways[k]) == x && ys[k] + stepY(ways[k]) == y) {
                    return pipsOn(tiles[k]) - firsts[k];
                }
            }
            return NONE;
        }

        int freeByCells() {
            int many = 0;
            for (int y = 0; y < SIDE; y++) {
                for (int x = 0; x < SIDE; x++) {
                    if (isFree(x, y)) {
                        many++;
                    }
                }
            }
            return many;
        }

        int freeByTiles() {
            return SIDE * SIDE - 2 * size;
        }

        int numberOfReach(int what) {
            switch (what) {
                case 0:
                    return least(true);
                case 1:
                    return greatest(true);
                case 2:
                    return least(false);
                case 3:
                    return greatest(false);
                case 4:
                    return turnsTo(RIGHT);
                default:
                    return turnsTo(LEFT);
            }
        }

        private int least(boolean columns) {
            int found = NONE;
            for (int k = 0; k < size && k < TILES; k++) {
                int cell = Math.min(0, step(k, columns)) + (columns ? xs[k] : ys[k]);
                found = k == 0 ? cell : Math.min(found, cell);
            }
            return found;
        }

        private int greatest(boolean columns) {
            int found = NONE;
            for (int k = 0; k < size && k < TILES; k++) {
                int cell = Math.max(0, step(k, columns)) + (columns ? xs[k] : ys[k]);
                found = k == 0 ? cell : Math.max(found, cell);
            }
            return found;
        }

        // How far the second cell of a tile lies from the first one.
        private int step(int k, boolean columns) {
            if (k < 0 || k >= TILES) {
                return 0;
            }
            return columns ? stepX(ways[k]) : stepY(ways[k]);
        }

        // Also the turn behind the last tile counts, which no tile has followed yet.
        private int turnsTo(int side) {
            int many = 0;
            for (int k = 0; k < size && k < TILES; k++) {
                int after = k + 1 < size && k + 1 < TILES ? ways[k + 1] : direction;
                if (((after - ways[k]) & 3) == side) {
                    many++;
                }
            }
            return many;
        }

        private boolean isFree(int x, int y) {
            return x >= 0 && x < SIDE && y >= 0 && y < SIDE && (covered[y] >>> x & 1) == 0;
        }

        private void cover(int x, int y) {
            if (isCell(x, y)) {
                covered[y] |= 1 << x;
            }
        }
    }

    /** A state: the round with its table, and what is kept over all rounds. */
    private static final class Game {
        private int rounds;
        private int refused;
        private int laidInAll;
        private int phase;
        private int players;
        private int turn;
        private int passes;
        // The row as it was dealt from; the heap is what lies in it from heapBegin on.
        private final int[] row = new int[TILES];
        private int heapBegin;
        private final int[] holders = new int[TILES];
        private final int[] scores = new int[MOST_PLAYERS];
        private final int[] wins = new int[MOST_PLAYERS];
        private final Line line = new Line();

        Game() {
            becomeNew();
        }

        void becomeNew() {
            rounds = 0;
            refused = 0;
            laidInAll = 0;
            phase = NO_ROUND;
            players = 0;
            turn = 0;
            passes = 0;
            heapBegin = TILES;
            Arrays.fill(holders, NONE);
            Arrays.fill(scores, 0);
            Arrays.fill(wins, 0);
            line.becomeEmpty();
        }

        void becomeLike(Game other) {
            rounds = other.rounds;
            refused = other.refused;
            laidInAll = other.laidInAll;
            phase = other.phase;
            players = other.players;
            turn = other.turn;
            passes = other.passes;
            heapBegin = other.heapBegin;
            System.arraycopy(other.row, 0, row, 0, TILES);
            System.arraycopy(other.holders, 0, holders, 0, TILES);
            System.arraycopy(other.scores, 0, scores, 0, MOST_PLAYERS);
            System.arraycopy(other.wins, 0, wins, 0, MOST_PLAYERS);
            line.becomeLike(other.line);
        }

        Line line() {
            return line;
        }

        int roundsSoFar() {
            return rounds;
        }

        boolean isPlayed() {
            return phase == PLAYED;
        }

        int playerToMove() {
            return isPlayed() ? turn : NONE;
        }

        int heapSize() {
            return TILES - heapBegin;
        }

        int numberOfGame(int what) {
            switch (what) {
                case 0:
                    return rounds;
                case 1:
                    return phase;
                case 2:
                    return players;
                case 3:
                    return playerToMove();
                case 4:
                    return heapSize();
                case 5:
                    return line.size();
                case 6:
                    return line.endOfNow();
                case 7:
                    return line.directionOfNow();
                case 8:
                    return passes;
                case 9:
                    return line.pips();
                case 10:
                    return refused;
                default:
                    return laidInAll;
            }
        }

        int numberOfTile(int t, int what) {
            switch (what) {
                case 0:
                    return lowOf(t);
                case 1:
                    return highOf(t);
                case 2:
                    return holderOf(t);
                case 3:
                    return line.placeOf(t);
                default:
                    return placeInHeap(t);
            }
        }

        int numberOfPlayer(int p, int what) {
            if (!isPlayer(p)) {
                return NONE;
            }
            switch (what) {
                case 0:
                    return tilesOf(p);
                case 1:
                    return pipsOf(p);
                case 2:
                    return scores[p];
                default:
                    return wins[p];
            }
        }

        int tilesOf(int p) {
            return Integer.bitCount(handOf(p));
        }

        // Deals, unless there cannot be so many players; tells whether it did.
        boolean startRound(int many, long seed) {
            if (many < FEWEST_PLAYERS || many > MOST_PLAYERS) {
                return false;
            }
            shuffle(seed);
            Arrays.fill(holders, NONE);
            heapBegin = many * HAND;
            for (int i = 0; i < heapBegin && i < TILES; i++) {
                giveTo(row[i], i / HAND);
            }
            line.becomeEmpty();
            players = many;
            turn = rounds % many;
            passes = 0;
            phase = PLAYED;
            rounds++;
            return true;
        }

        private void shuffle(long seed) {
            for (int t = 0; t < TILES; t++) {
                row[t] = t;
            }
            long x = seed;
            for (int k = TILES - 1; k >= 1; k--) {
                x = x * FACTOR + ADDEND;
                int other = (int) (x >>> 33) % (k + 1);
                int moved = row[k];
                row[k] = row[other];
                row[other] = moved;
            }
        }

        int reasonAgainst(int t) {
            if (!isPlayed()) {
                return NONE;
            }
            if (holderOf(t) != turn) {
                return NOT_HELD;
            }
            if (!line.fits(t)) {
                return NOT_FITTING;
            }
            return line.hasRoom() ? NO_REASON : NO_ROOM;
        }

        int layOrRefuse(int t, boolean left) {
            int reason = reasonAgainst(t);
            if (!layIfPossible(t, left)) {
                refused++;
            }
            return reason;
        }

        // Tells whether the tile was laid; a tile that was not counts as refused nowhere.
        boolean layIfPossible(int t, boolean left) {
            if (reasonAgainst(t) != NO_REASON) {
                return false;
            }
            line.add(t, left);
            giveTo(t, NONE);
            laidInAll++;
            passes = 0;
            if (tilesOf(turn) == 0) {
                winRound(turn);
            } else {
                goToNextPlayer();
            }
            return true;
        }

        boolean layHeaviest(int times) {
            for (int k = 0; k < times; k++) {
                if (!layIfPossible(heaviestPlayable(), false)) {
                    return false;
                }
            }
            return true;
        }

        boolean canTakeFromHeap() {
            return isPlayed() && heapBegin < TILES;
        }

        // The tile that the player took; NONE if it cannot be.
        int takeFromHeap() {
            if (!canTakeFromHeap() || heapBegin < 0) {
                return NONE;
            }
            int t = row[heapBegin];
            heapBegin++;
            giveTo(t, turn);
            passes = 0;
            return t;
        }

        boolean canSkipTurn() {
            return isPlayed() && heapBegin >= TILES;
        }

        // The phase behind it; NONE if the player cannot pass.
        int skipTurn() {
            if (!canSkipTurn()) {
                return NONE;
            }
            passes++;
            if (passes >= players) {
                winRound(playerWithFewestPips());
            } else {
                goToNextPlayer();
            }
            return phase;
        }

        private void goToNextPlayer() {
            turn = turn + 1 < players ? turn + 1 : 0;
        }

        private int playerWithFewestPips() {
            int found = 0;
            for (int p = 1; p < players; p++) {
                if (pipsOf(p) < pipsOf(found)) {
                    found = p;
                }
            }
            return found;
        }

        // A player without tiles has no own pips, so that this counts for both ends of a round.
        private void winRound(int p) {
            if (isPlayer(p)) {
                int sum = 0;
                for (int other = 0; other < players; other++) {
                    sum += pipsOf(other);
                }
                scores[p] += sum - 2 * pipsOf(p);
                wins[p]++;
            }
            phase = OVER;
        }

        // The set of the tiles that can be laid now.
        int playable() {
            int set = 0;
            for (int t = 0; t < TILES; t++) {
                if (reasonAgainst(t) == NO_REASON) {
                    set |= 1 << t;
                }
            }
            return set;
        }

        int heaviestPlayable() {
            int found = NONE;
            for (int t = 0; t < TILES; t++) {
                if (reasonAgainst(t) == NO_REASON && (found == NONE || pipsOn(t) > pipsOn(found))) {
                    found = t;
                }
            }
            return found;
        }

        int longestChainOf(int p, int most) {
            if (!isPlayed()) {
                return 0;
            }
            int hand = handOf(p);
            return line.size() > 0 ? mostBehind(hand, line.endOfNow(), most) : mostFromAnyTile(hand, most);
        }

        private static int mostFromAnyTile(int hand, int most) {
            int found = 0;
            for (int t = 0; t < TILES && found < most; t++) {
                if ((hand >>> t & 1) != 0) {
                    found = Math.max(found, 1 + mostBehind(hand & ~(1 << t), highOf(t), most - 1));
                }
            }
            return found;
        }

        // Goes at most as deep as most, which falls by one each time.
        private static int mostBehind(int hand, int pips, int most) {
            int found = 0;
            for (int other = 0; other <= MOST_PIPS && found < most; other++) {
                int t = tileWith(pips, other);
                if ((hand >>> t & 1) != 0) {
                    found = Math.max(found, 1 + mostBehind(hand & ~(1 << t), other, most - 1));
                }
            }
            return found;
        }

        private int holderOf(int t) {
            return isTile(t) ? holders[t] : NONE;
        }

        private void giveTo(int t, int p) {
            if (isTile(t)) {
                holders[t] = p;
            }
        }

        private int handOf(int p) {
            int hand = 0;
            for (int t = 0; t < TILES; t++) {
                if (holders[t] == p) {
                    hand |= 1 << t;
                }
            }
            return hand;
        }

        private int pipsOf(int p) {
            int sum = 0;
            for (int t = 0; t < TILES; t++) {
                if (holders[t] == p) {
                    sum += LOW[t] + HIGH[t];
                }
            }
            return sum;
        }

        private int placeInHeap(int t) {
            for (int i = 0; i < TILES; i++) {
                if (i >= heapBegin && row[i] == t) {
                    return i - heapBegin;
                }
            }
            return NONE;
        }
    }

    /** The states ahead of the last actions: a ring in which the newest ones replace the oldest. */
    private static final class History {
        private final Game[] states = new Game[REMEMBERED];
        private int begin;
        private int size;

        History() {
            for (int i = 0; i < REMEMBERED; i++) {
                states[i] = new Game();
            }
        }

        int size() {
            return size;
        }

        void forget() {
            begin = 0;
            size = 0;
        }

        void remember(Game game) {
            Game place = stateOf(size);
            if (place != null) {
                place.becomeLike(game);
            }
            if (size < REMEMBERED) {
                size++;
            } else {
                begin = (begin + 1) % REMEMBERED;
            }
        }

        int takeBack(Game game) {
            if (size > 0) {
                size--;
                Game last = stateOf(size);
                if (last != null) {
                    game.becomeLike(last);
                }
            }
            return size;
        }

        private Game stateOf(int k) {
            int i = Math.floorMod(begin + k, REMEMBERED);
            return i < states.length ? states[i] : null;
        }
    }

    /** A save slot. */
    private static final class Slot {
        private final Game kept = new Game();
        private boolean full;

        boolean isFull() {
            return full;
        }

        void becomeEmpty() {
            full = false;
        }

        void keep(Game game) {
            kept.becomeLike(game);
            full = true;
        }

        void giveBack(Game game) {
            game.becomeLike(kept);
        }
    }
}
