import java.util.ArrayDeque;
import java.util.ArrayList;
import java.util.Collections;
import java.util.Deque;
import java.util.HashMap;
import java.util.LinkedHashMap;
import java.util.List;
import java.util.Map;
import java.util.TreeSet;
import java.util.regex.Matcher;
import java.util.regex.Pattern;

/** The document once more, written as plainly and as unlike the program as can be: for random runs. */
final class Model {
    private static final Pattern GAME = Pattern.compile("N(d[2-4][0-9][0-9]|p([01][0-9]|2[0-7])[rl]|w|s|b)*");
    private static final Pattern COMMAND = Pattern.compile("d[2-4][0-9][0-9]|p[0-9][0-9][rl]|w|s|b");
    private static final List<int[]> HALVES = halves();

    private static final class State {
        int rounds;
        int phase;
        int players;
        int turn = -1;
        int passes;
        int refused;
        int laidInAll;
        int end = -1;
        int direction;
        int rights;
        int lefts;
        List<Integer> heap = new ArrayList<>();
        List<TreeSet<Integer>> hands = emptyHands();
        int[] scores = new int[4];
        int[] wins = new int[4];
        // Of each tile on the table: tile, x, y, direction, first pips, other pips.
        List<int[]> table = new ArrayList<>();
        Map<Integer, Integer> cells = new LinkedHashMap<>();

        State copy() {
            State c = new State();
            c.rounds = rounds;
            c.phase = phase;
            c.players = players;
            c.turn = turn;
            c.passes = passes;
            c.refused = refused;
            c.laidInAll = laidInAll;
            c.end = end;
            c.direction = direction;
            c.rights = rights;
            c.lefts = lefts;
            c.heap = new ArrayList<>(heap);
            for (int p = 0; p < 4; p++) {
                c.hands.set(p, new TreeSet<>(hands.get(p)));
            }
            c.scores = scores.clone();
            c.wins = wins.clone();
            c.table = new ArrayList<>(table);
            c.cells = new LinkedHashMap<>(cells);
            return c;
        }
    }

    private StringBuilder text = new StringBuilder();
    private State s = new State();
    private final Deque<State> remembered = new ArrayDeque<>();
    private final Map<Integer, State> slots = new HashMap<>();

    private static List<int[]> halves() {
        List<int[]> all = new ArrayList<>();
        for (int a = 0; a <= 6; a++) {
            for (int b = a; b <= 6; b++) {
                all.add(new int[] {a, b});
            }
        }
        return all;
    }

    private static List<TreeSet<Integer>> emptyHands() {
        List<TreeSet<Integer>> hands = new ArrayList<>();
        for (int p = 0; p < 4; p++) {
            hands.add(new TreeSet<>());
        }
        return hands;
    }

    private static void index(boolean good) {
        if (!good) {
            throw new IndexOutOfBoundsException();
        }
    }

    private static void argument(boolean good) {
        if (!good) {
            throw new IllegalArgumentException();
        }
    }

    private static void state(boolean good) {
        if (!good) {
            throw new IllegalStateException();
        }
    }

    private static int pips(int t) {
        return HALVES.get(t)[0] + HALVES.get(t)[1];
    }

    private static int pips(TreeSet<Integer> hand) {
        return hand.stream().mapToInt(Model::pips).sum();
    }

    // ---- text

    int append(int c) {
        argument(c >= 0 && c <= 255);
        state(text.length() < 120);
        return text.append((char) c).length();
    }

    int clearText() {
        int before = text.length();
        text = new StringBuilder();
        return before;
    }

    int errorPosition() {
        String all = text.toString();
        for (int i = 0; i < all.length(); i++) {
            Matcher matcher = GAME.matcher(all.substring(0, i + 1));
            if (!matcher.matches() && !matcher.hitEnd()) {
                return i;
            }
        }
        return GAME.matcher(all).matches() ? -1 : all.length();
    }

    int load() {
        state(errorPosition() == -1);
        s = new State();
        remembered.clear();
        slots.clear();
        int leftOut = 0;
        Matcher matcher = COMMAND.matcher(text.substring(1));
        while (matcher.find()) {
            String c = matcher.group();
            if (c.startsWith("d")) {
                startRound(c.charAt(1) - '0', Integer.parseInt(c.substring(2)));
            } else if (c.startsWith("p")) {
                int t = Integer.parseInt(c.substring(1, 3));
                if (why(t) == 0) {
                    lay(t, c.endsWith("l"));
                } else {
                    leftOut++;
                }
            } else if (c.equals("w")) {
                if (s.phase == 1 && !s.heap.isEmpty()) {
                    take();
                } else {
                    leftOut++;
                }
            } else if (c.equals("s")) {
                if (s.phase == 1 && s.heap.isEmpty()) {
                    skip();
                } else {
                    leftOut++;
                }
            } else if (best() != -1) {
                lay(best(), false);
            }
        }
        return leftOut;
    }

    // ---- what there is

    int about(int what) {
        argument(what >= 0 && what <= 11);
        int onTable = s.table.stream().mapToInt(k -> pips(k[0])).sum();
        int turn = s.phase == 1 ? s.turn : -1;
        int[] all = {s.rounds, s.phase, s.players, turn, s.heap.size(), s.table.size(), s.end, s.direction,
            s.passes, onTable, s.refused, s.laidInAll};
        return all[what];
    }

    int tileOf(int t, int what) {
        index(t >= 0 && t <= 27);
        argument(what >= 0 && what <= 4);
        int holder = -1;
        for (int p = 0; p < 4; p++) {
            if (s.hands.get(p).contains(t)) {
                holder = p;
            }
        }
        int place = -1;
        for (int k = 0; k < s.table.size(); k++) {
            if (s.table.get(k)[0] == t) {
                place = k;
            }
        }
        int[] all = {HALVES.get(t)[0], HALVES.get(t)[1], holder, place, s.heap.indexOf(t)};
        return all[what];
    }

    int laid(int k, int what) {
        index(k >= 0 && k < s.table.size());
        argument(what >= 0 && what <= 5);
        return s.table.get(k)[what];
    }

    int playerOf(int p, int what) {
        index(p >= 0 && p <= 3);
        argument(what >= 0 && what <= 3);
        int[] all = {s.hands.get(p).size(), pips(s.hands.get(p)), s.scores[p], s.wins[p]};
        return all[what];
    }

    int at(int x, int y) {
        index(x >= 0 && x <= 24 && y >= 0 && y <= 24);
        return s.cells.getOrDefault(100 * y + x, -1);
    }

    int free(int way) {
        argument(way == 0 || way == 1);
        return 625 - s.cells.size();
    }

    // ---- actions

    int deal(int players, long seed) {
        argument(players >= 2 && players <= 4);
        remember();
        startRound(players, seed);
        return s.rounds;
    }

    int play(int t, boolean left) {
        index(t >= 0 && t <= 27);
        state(s.phase == 1);
        remember();
        int reason = why(t);
        if (reason == 0) {
            lay(t, left);
        } else {
            s.refused++;
        }
        return reason;
    }

    int draw() {
        state(s.phase == 1 && !s.heap.isEmpty());
        remember();
        return take();
    }

    int pass() {
        state(s.phase == 1 && s.heap.isEmpty());
        remember();
        skip();
        return s.phase;
    }

    int undo() {
        state(!remembered.isEmpty());
        s = remembered.removeLast();
        return remembered.size();
    }

    private void remember() {
        remembered.addLast(s.copy());
        if (remembered.size() > 14) {
            remembered.removeFirst();
        }
    }

    private void startRound(int players, long seed) {
        List<Integer> row = new ArrayList<>();
        for (int t = 0; t < 28; t++) {
            row.add(t);
        }
        long x = seed;
        for (int k = 27; k >= 1; k--) {
            x = x * 6364136223846793005L + 1442695040888963407L;
            Collections.swap(row, k, (int) (x >>> 33) % (k + 1));
        }
        s.hands = emptyHands();
        for (int p = 0; p < players; p++) {
            s.hands.get(p).addAll(row.subList(5 * p, 5 * p + 5));
        }
        s.heap = new ArrayList<>(row.subList(5 * players, 28));
        s.table = new ArrayList<>();
        s.cells = new LinkedHashMap<>();
        s.end = -1;
        s.direction = 0;
        s.rights = 0;
        s.lefts = 0;
        s.passes = 0;
        s.players = players;
        s.phase = 1;
        s.turn = s.rounds % players;
        s.rounds++;
    }

    // The four numbers of the two cells of the next tile: x, y, x, y.
    private int[] nextCells() {
        int[] dx = {1, 0, -1, 0};
        int[] dy = {0, 1, 0, -1};
        int x = 12;
        int y = 12;
        if (!s.table.isEmpty()) {
            int[] last = s.table.get(s.table.size() - 1);
            x = last[1] + dx[last[3]] + dx[s.direction];
            y = last[2] + dy[last[3]] + dy[s.direction];
        }
        return new int[] {x, y, x + dx[s.direction], y + dy[s.direction]};
    }

    private boolean isFreeCell(int x, int y) {
        return x >= 0 && x < 25 && y >= 0 && y < 25 && !s.cells.containsKey(100 * y + x);
    }

    private void lay(int t, boolean left) {
        int[] halves = HALVES.get(t);
        int[] cells = nextCells();
        int first = s.table.isEmpty() ? halves[0] : s.end;
        int other = halves[0] == first ? halves[1] : halves[0];
        s.table.add(new int[] {t, cells[0], cells[1], s.direction, first, other});
        s.cells.put(100 * cells[1] + cells[0], first);
        s.cells.put(100 * cells[3] + cells[2], other);
        s.end = other;
        if (halves[0] == halves[1] && left) {
            s.direction = new int[] {3, 0, 1, 2}[s.direction];
            s.lefts++;
        } else if (halves[0] == halves[1]) {
            s.direction = new int[] {1, 2, 3, 0}[s.direction];
            s.rights++;
        }
        s.passes = 0;
        s.laidInAll++;
        s.hands.get(s.turn).remove(t);
        if (s.hands.get(s.turn).isEmpty()) {
            win(s.turn);
        } else {
            s.turn = (s.turn + 1) % s.players;
        }
    }

    private void win(int p) {
        int all = s.hands.stream().mapToInt(Model::pips).sum();
        s.scores[p] += all - 2 * pips(s.hands.get(p));
        s.wins[p]++;
        s.phase = 2;
    }

    private int take() {
        int t = s.heap.remove(0);
        s.hands.get(s.turn).add(t);
        s.passes = 0;
        return t;
    }

    private void skip() {
        s.passes++;
        if (s.passes < s.players) {
            s.turn = (s.turn + 1) % s.players;
            return;
        }
        int winner = 0;
        for (int p = s.players - 1; p >= 0; p--) {
            if (pips(s.hands.get(p)) <= pips(s.hands.get(winner))) {
                winner = p;
            }
        }
        win(winner);
    }

    // ---- what would be

    int why(int t) {
        index(t >= 0 && t <= 27);
        if (s.phase != 1) {
            return -1;
        }
        if (!s.hands.get(s.turn).contains(t)) {
            return 1;
        }
        if (!s.table.isEmpty() && HALVES.get(t)[0] != s.end && HALVES.get(t)[1] != s.end) {
            return 2;
        }
        int[] cells = nextCells();
        return isFreeCell(cells[0], cells[1]) && isFreeCell(cells[2], cells[3]) ? 0 : 3;
    }

    private List<Integer> playable() {
        List<Integer> found = new ArrayList<>();
        for (int t = 0; t < 28; t++) {
            if (why(t) == 0) {
                found.add(t);
            }
        }
        return found;
    }

    int legal() {
        return playable().stream().mapToInt(t -> (int) Math.pow(2, t)).sum();
    }

    int best() {
        List<Integer> found = playable();
        int most = found.stream().mapToInt(Model::pips).max().orElse(-1);
        return found.stream().filter(t -> pips(t) == most).findFirst().orElse(-1);
    }

    int chain(int p, int max) {
        index(p >= 0 && p <= 3);
        argument(max >= 1 && max <= 6);
        return s.phase == 1 ? longest(s.hands.get(p), s.end, s.table.isEmpty(), max) : 0;
    }

    private static int longest(TreeSet<Integer> hand, int end, boolean bare, int max) {
        int most = 0;
        for (int t : hand) {
            int[] halves = HALVES.get(t);
            if (most == max || !bare && halves[0] != end && halves[1] != end) {
                continue;
            }
            TreeSet<Integer> rest = new TreeSet<>(hand);
            rest.remove(t);
            int other = bare || halves[0] == end ? halves[1] : halves[0];
            most = Math.max(most, 1 + longest(rest, other, false, max - 1));
        }
        return most;
    }

    int reach(int what) {
        argument(what >= 0 && what <= 5);
        if (what >= 4) {
            return what == 4 ? s.rights : s.lefts;
        }
        List<Integer> numbers = new ArrayList<>();
        for (int cell : s.cells.keySet()) {
            numbers.add(what < 2 ? cell % 100 : cell / 100);
        }
        if (numbers.isEmpty()) {
            return -1;
        }
        return what % 2 == 0 ? Collections.min(numbers) : Collections.max(numbers);
    }

    // ---- scripts, simulations

    int runScript(int n, long script) {
        argument(n >= 1 && n <= 4);
        argument(script >= 0 && Long.toString(script).length() <= 4 * n);
        String digits = "0".repeat(4 * n - Long.toString(script).length()) + script;
        State before = s.copy();
        int failed = -1;
        for (int i = 0; i < n && failed == -1; i++) {
            if (!succeeds(digits.substring(4 * i, 4 * i + 4))) {
                failed = i;
            }
        }
        s = before;
        return failed;
    }

    private boolean succeeds(String c) {
        int lastTwo = Integer.parseInt(c.substring(2));
        if (c.matches("1[234]..")) {
            startRound(c.charAt(1) - '0', lastTwo);
            return true;
        }
        if (c.matches("2[01]..") && lastTwo <= 27 && why(lastTwo) == 0) {
            lay(lastTwo, c.charAt(1) == '1');
            return true;
        }
        if (c.equals("3000") && s.phase == 1 && !s.heap.isEmpty()) {
            take();
            return true;
        }
        if (c.equals("4000") && s.phase == 1 && s.heap.isEmpty()) {
            skip();
            return true;
        }
        if (c.matches("500.")) {
            for (int k = 0; k < lastTwo; k++) {
                if (best() == -1) {
                    return false;
                }
                lay(best(), false);
            }
            return true;
        }
        return c.matches("600[0-3]") && s.phase == 1 && s.turn == lastTwo
            || c.matches("7[0-3]..") && s.hands.get(c.charAt(1) - '0').size() <= lastTwo
            || c.matches("800.") && s.end == lastTwo
            || c.matches("90..") && s.table.size() >= lastTwo;
    }

    int simulate(long seed, int m) {
        argument(m >= 1 && m <= 200);
        State before = s.copy();
        long x = seed;
        int dealt = 0;
        for (int k = 0; k < m; k++) {
            x = x * 6364136223846793005L + 1442695040888963407L;
            int r = (int) (x >>> 33);
            int q = r / 16;
            if (s.phase != 1) {
                startRound(2 + q % 3, q);
                dealt++;
            } else if (!playable().isEmpty()) {
                lay(playable().get(r % 16 % playable().size()), q % 2 == 1);
            } else if (!s.heap.isEmpty()) {
                take();
            } else {
                skip();
            }
        }
        int answer = 10000 * dealt + 100 * s.table.size() + s.heap.size();
        s = before;
        return answer;
    }

    // ---- save slots

    int save(int slot) {
        index(slot == 0 || slot == 1);
        slots.put(slot, s.copy());
        return s.rounds;
    }

    int restore(int slot) {
        index(slot == 0 || slot == 1);
        state(slots.containsKey(slot));
        s = slots.get(slot).copy();
        remembered.clear();
        return s.rounds;
    }
}
