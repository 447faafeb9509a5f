import java.util.ArrayList;
import java.util.List;

/**
 * The document once more, as literally and as slowly as can be: every turn is told by two whole energies,
 * every state is a copy, every way of pushes is tried. ModelTests compares MagnetChain with it.
 */
final class Model {
    private static final int BAD = -1000000001, STATE = -1000000002, FULL = -1000000003, NONE = -1000000009;

    private static final class Magnet {
        int angle;
        boolean held;
        Integer goal;

        Magnet(int angle, boolean held, Integer goal) {
            this.angle = angle;
            this.held = held;
            this.goal = goal;
        }
    }

    private static final class World {
        List<Magnet> row = new ArrayList<>();
        int coupling = 10, depth = 300, strength = 0, side = 0;
        int heat = 0, work = 0, turns = 0, pushes = 0;
        List<int[]> log = new ArrayList<>();

        World copy() {
            World w = new World();
            for (Magnet m : row) {
                w.row.add(new Magnet(m.angle, m.held, m.goal));
            }
            w.coupling = coupling;
            w.depth = depth;
            w.strength = strength;
            w.side = side;
            w.heat = heat;
            w.work = work;
            w.turns = turns;
            w.pushes = pushes;
            w.log.addAll(log);
            return w;
        }

        int energy() {
            int sum = 0;
            for (int i = 0; i < row.size(); i++) {
                for (int j = i + 1; j < row.size(); j++) {
                    sum += pair(i, j);
                }
                sum += field(i);
            }
            return sum;
        }

        int pair(int i, int j) {
            int apart = Math.abs(i - j);
            int strong = apart == 1 ? coupling : apart == 2 ? Math.floorDiv(coupling, 8) : 0;
            int a = row.get(i).angle, b = row.get(j).angle;
            return strong * (10 * c(a - b) - 3 * c(a) * c(b));
        }

        /** With a negative strength: the strength without its sign and the opposite side. */
        int field(int i) {
            int h = Math.abs(strength);
            int s = strength < 0 ? side + 4 : side;
            return -h * c(row.get(i).angle - s) * 10;
        }

        int frees(int i, int direction) {
            World after = copy();
            after.turn(i, direction);
            return energy() - after.energy();
        }

        void turn(int i, int by) {
            row.get(i).angle = Math.floorMod(row.get(i).angle + by, 8);
        }

        int settle() {
            int done = 0;
            while (done < 200) {
                int[] best = null;
                for (int i = 0; i < row.size(); i++) {
                    for (int direction : new int[] {1, -1}) {
                        if (row.get(i).held) {
                            continue;
                        }
                        int free = frees(i, direction);
                        if (best == null || free > best[2]) {
                            best = new int[] {i, direction, free};
                        }
                    }
                }
                if (best == null || best[2] <= depth) {
                    break;
                }
                turn(best[0], best[1]);
                heat += best[2];
                turns++;
                log.add(0, best);
                done++;
            }
            while (log.size() > 30) {
                log.remove(log.size() - 1);
            }
            return done;
        }

        boolean solved() {
            for (Magnet m : row) {
                if (m.goal != null && m.goal != m.angle) {
                    return false;
                }
            }
            return true;
        }

        int points(int toSide) {
            int sum = 0;
            for (Magnet m : row) {
                sum += c(m.angle - toSide);
            }
            return sum;
        }
    }

    private World now = new World();
    private final List<World> history = new ArrayList<>();
    private final World[] images = new World[2];
    private String text = "";
    private int[] fault = null;

    Model() {
        for (int i = 0; i < 4; i++) {
            now.row.add(new Magnet(0, false, null));
        }
    }

    private static int c(int k) {
        switch (Math.floorMod(k, 8)) {
            case 0: return 10;
            case 1: case 7: return 7;
            case 2: case 6: return 0;
            case 3: case 5: return -7;
            default: return -10;
        }
    }

    private boolean none(int i) {
        return i < 0 || i >= now.row.size();
    }

    private void remember() {
        history.add(now.copy());
        if (history.size() > 8) {
            history.remove(0);
        }
    }

    private int finish(int before) {
        now.work += now.energy() - before;
        return now.settle();
    }

    int begin(int n) {
        if (n < 1 || n > 10) {
            return BAD;
        }
        remember();
        int previous = now.row.size();
        World w = new World();
        w.coupling = now.coupling;
        w.depth = now.depth;
        w.strength = now.strength;
        w.side = now.side;
        for (int i = 0; i < n; i++) {
            w.row.add(new Magnet(0, false, null));
        }
        now = w;
        now.settle();
        return previous;
    }

    int insert(int place, int angle) {
        if (place < 0 || place > now.row.size() || angle < 0 || angle > 7) {
            return BAD;
        }
        if (now.row.size() == 10) {
            return FULL;
        }
        remember();
        int before = now.energy();
        now.row.add(place, new Magnet(angle, false, null));
        finish(before);
        return now.row.size();
    }

    int remove(int i) {
        if (none(i)) {
            return BAD;
        }
        if (now.row.size() == 1) {
            return STATE;
        }
        remember();
        int before = now.energy();
        int angle = now.row.remove(i).angle;
        finish(before);
        return angle;
    }

    int shed() {
        List<Magnet> rest = new ArrayList<>();
        for (int i = 0; i < now.row.size(); i++) {
            int sum = (i > 0 ? now.pair(i, i - 1) : 0) + (i + 1 < now.row.size() ? now.pair(i, i + 1) : 0);
            if (now.row.get(i).held || sum <= 0) {
                rest.add(now.row.get(i));
            }
        }
        if (rest.isEmpty()) {
            return STATE;
        }
        remember();
        int before = now.energy();
        int out = now.row.size() - rest.size();
        now.row = rest;
        finish(before);
        return out;
    }

    int reverse() {
        remember();
        int before = now.energy();
        List<Magnet> row = new ArrayList<>();
        int others = 0;
        for (Magnet m : now.row) {
            Integer goal = m.goal == null ? null : Integer.valueOf(Math.floorMod(4 - m.goal, 8));
            row.add(0, new Magnet(Math.floorMod(4 - m.angle, 8), m.held, goal));
        }
        for (int i = 0; i < row.size(); i++) {
            if (row.get(i).angle != now.row.get(i).angle) {
                others++;
            }
        }
        now.row = row;
        finish(before);
        return others;
    }

    int hold(int i, int on) {
        if (none(i) || on < 0 || on > 1) {
            return BAD;
        }
        remember();
        int before = now.energy();
        int was = now.row.get(i).held ? 1 : 0;
        now.row.get(i).held = on == 1;
        finish(before);
        return was;
    }

    int push(int i, int by) {
        if (none(i) || by < -4 || by > 4 || by == 0) {
            return BAD;
        }
        if (now.row.get(i).held) {
            return STATE;
        }
        remember();
        int before = now.energy();
        now.turn(i, by);
        now.pushes++;
        return finish(before);
    }

    int set(int what, int value) {
        int[] most = {20, 2000, 100, 7};
        if (what < 0 || what > 3 || value < 0 || value > most[what]) {
            return BAD;
        }
        remember();
        int before = now.energy();
        if (what == 0) {
            now.coupling = value;
        } else if (what == 1) {
            now.depth = value;
        } else if (what == 2) {
            now.strength = value;
        } else {
            now.side = value;
        }
        return finish(before);
    }

    int goal(int i, int angle) {
        if (none(i) || angle != NONE && (angle < 0 || angle > 7)) {
            return BAD;
        }
        remember();
        int before = now.energy();
        Integer previous = now.row.get(i).goal;
        now.row.get(i).goal = angle == NONE ? null : Integer.valueOf(angle);
        finish(before);
        return previous == null ? NONE : previous;
    }

    int undo() {
        if (history.isEmpty()) {
            return STATE;
        }
        now = history.remove(history.size() - 1);
        return history.size();
    }

    int told(int what) {
        int walls = 0, missed = 0, held = 0;
        for (int i = 0; i < now.row.size(); i++) {
            Magnet m = now.row.get(i);
            walls += i > 0 && now.row.get(i - 1).angle != m.angle ? 1 : 0;
            missed += m.goal != null && m.goal != m.angle ? 1 : 0;
            held += m.held ? 1 : 0;
        }
        int[] numbers = {now.row.size(), now.energy(), now.work, now.heat, now.coupling, now.depth,
            now.strength, now.side, now.turns, now.pushes, now.log.size(), walls, missed, held,
            text.length(), history.size()};
        return what < 0 || what >= numbers.length ? BAD : numbers[what];
    }

    int magnet(int i, int what) {
        if (none(i) || what < 0 || what > 5) {
            return BAD;
        }
        Magnet m = now.row.get(i);
        if (what == 0) {
            return m.angle;
        }
        if (what == 1) {
            return m.held ? 1 : 0;
        }
        if (what == 2) {
            return m.goal == null ? NONE : m.goal;
        }
        if (what < 5) {
            return now.frees(i, what == 3 ? 1 : -1);
        }
        int part = now.field(i);
        for (int j = 0; j < now.row.size(); j++) {
            part += j == i ? 0 : now.pair(i, j);
        }
        return part;
    }

    int log(int k, int what) {
        if (k < 0 || what < 0 || what > 2) {
            return BAD;
        }
        return k < now.log.size() ? now.log.get(k)[what] : NONE;
    }

    int points(int side) {
        return side < 0 || side > 7 ? BAD : now.points(side);
    }

    float mean() {
        return (float) now.energy() / (float) now.row.size();
    }

    int moved(int i, int by) {
        if (none(i) || by < -4 || by > 4 || by == 0) {
            return BAD;
        }
        if (now.row.get(i).held) {
            return STATE;
        }
        World copy = now.copy();
        copy.turn(i, by);
        return copy.settle();
    }

    int loop(int most, int step, int what) {
        if (most < 1 || most > 100 || step < 1 || step > 100 || 10 * step < most || most % step != 0
                || what < 0 || what > 4) {
            return BAD;
        }
        List<Integer> way = new ArrayList<>();
        for (int h = 0; h <= most; h += step) {
            way.add(h);
        }
        int top = way.size() - 1;
        for (int h = most - step; h >= -most; h -= step) {
            way.add(h);
        }
        int bottom = way.size() - 1;
        for (int h = -most + step; h <= most; h += step) {
            way.add(h);
        }
        World copy = now.copy();
        int turned = 0;
        int[] p = new int[way.size()];
        for (int k = 0; k < p.length; k++) {
            copy.strength = way.get(k);
            turned += copy.settle();
            p[k] = copy.points(copy.side);
        }
        int area = 0, atZero = 0, first = NONE;
        for (int k = top + 1; k < p.length; k++) {
            area += (p[k - 1] + p[k]) * (way.get(k) - way.get(k - 1));
        }
        for (int k = bottom; k > top; k--) {
            if (way.get(k) == 0) {
                atZero = p[k];
            }
            if (p[k] <= 0) {
                first = way.get(k);
            }
        }
        return new int[] {area, atZero, first, turned, p[p.length - 1]}[what];
    }

    int solve(int most, int what) {
        if (most < 0 || most > 3 || what < 0 || what > 2) {
            return BAD;
        }
        for (int pushes = 0; pushes <= most; pushes++) {
            int[] first = way(now, pushes);
            if (first != null) {
                return what == 0 ? pushes : first[what - 1];
            }
        }
        return NONE;
    }

    /** The first push of the first way with just so many pushes, null if there is no way. */
    private static int[] way(World from, int pushes) {
        if (pushes == 0) {
            return from.solved() ? new int[] {NONE, NONE} : null;
        }
        for (int i = 0; i < from.row.size(); i++) {
            for (int direction : new int[] {1, -1}) {
                if (from.row.get(i).held) {
                    continue;
                }
                World next = from.copy();
                next.turn(i, direction);
                next.settle();
                if (way(next, pushes - 1) != null) {
                    return new int[] {i, direction};
                }
            }
        }
        return null;
    }

    int write(int code) {
        if (code < 32 || code > 126) {
            return BAD;
        }
        if (text.length() == 40) {
            return FULL;
        }
        text += (char) code;
        return text.length();
    }

    int wipe() {
        int length = text.length();
        text = "";
        return length;
    }

    int load() {
        List<Magnet> read = new ArrayList<>();
        for (int place = 0; place < text.length(); place++) {
            char sign = text.charAt(place);
            boolean afterDigit = place > 0 && "01234567".indexOf(text.charAt(place - 1)) >= 0;
            if ("01234567".indexOf(sign) >= 0) {
                if (read.size() == 10) {
                    fault = new int[] {2, place};
                    return STATE;
                }
                read.add(new Magnet(sign - '0', false, null));
            } else if (sign == '!' && afterDigit) {
                read.get(read.size() - 1).held = true;
            } else if (sign != ' ') {
                fault = new int[] {1, place};
                return STATE;
            }
        }
        if (read.isEmpty()) {
            fault = new int[] {3, text.length()};
            return STATE;
        }
        remember();
        int before = now.energy();
        now.row = read;
        finish(before);
        return now.row.size();
    }

    int fault(int what) {
        if (what < 0 || what > 1) {
            return BAD;
        }
        return fault == null ? NONE : fault[what];
    }

    int keep(int i) {
        if (i < 0 || i > 1) {
            return BAD;
        }
        images[i] = now.copy();
        return now.row.size();
    }

    int back(int i) {
        if (i < 0 || i > 1) {
            return BAD;
        }
        if (images[i] == null) {
            return STATE;
        }
        remember();
        now = images[i].copy();
        return now.row.size();
    }
}
