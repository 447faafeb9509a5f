import java.util.Arrays;

/** A toy chain of magnets that turn in detents; ../shared/DOC.md says what each method does. */
public final class MagnetChain {
    public static final int BAD = -1000000001, STATE = -1000000002, FULL = -1000000003, NONE = -1000000009;

    private static final int LAST_ANGLE = 7;
    private static final int HALF_TURN = 4;
    private static final int FIRST_MAGNETS = 4;
    private static final int MOST_MAGNETS = 10;
    private static final int MOST_COUPLING = 20;
    private static final int MOST_DEPTH = 2000;
    private static final int MOST_STRENGTH = 100;
    private static final int MOST_TURNS = 200;
    private static final int MOST_LOGGED = 30;
    private static final int MOST_UNDONE = 8;
    private static final int MOST_PUSHES = 3;
    private static final int MOST_CODES = 40;
    private static final int IMAGES = 2;

    private static final int CANNOT_STAND = 1;
    private static final int ELEVENTH = 2;
    private static final int NO_MAGNET = 3;

    /** c(k) of the document, for k from 0 to 7. */
    private static final int[] COSINES = {10, 7, 0, -7, -10, -7, 0, 7};

    private final State present = new State();
    private final State[] history = new State[MOST_UNDONE];
    private int undoable = 0;
    private final State[] images = new State[IMAGES];
    private final boolean[] kept = new boolean[IMAGES];
    private final Text text = new Text();

    /** What-ifs happen in these; solve() needs one more than the pushes it tries. */
    private final Chain[] copies = new Chain[MOST_PUSHES + 1];

    public MagnetChain() {
        for (int i = 0; i < history.length; i++) {
            history[i] = new State();
        }
        for (int i = 0; i < images.length; i++) {
            images[i] = new State();
        }
        for (int i = 0; i < copies.length; i++) {
            copies[i] = new Chain();
        }
    }

    // ---- the chain

    public int begin(int n) {
        if (!isWithin(n, 1, MOST_MAGNETS)) {
            return BAD;
        }
        int previous = present.chain.size;
        record();
        present.chain.startWith(n);
        present.books.clear();
        present.chain.settle(present.books);
        return previous;
    }

    public int insert(int place, int angle) {
        Chain chain = present.chain;
        if (!isWithin(place, 0, chain.size) || !isAngle(angle)) {
            return BAD;
        }
        if (chain.size >= MOST_MAGNETS) {
            return FULL;
        }
        int before = startChange();
        chain.putIn(place, angle);
        endChange(before);
        return chain.size;
    }

    public int remove(int i) {
        Chain chain = present.chain;
        if (!isMagnet(i)) {
            return BAD;
        }
        if (chain.size == 1) {
            return STATE;
        }
        int angle = chain.angles[i];
        int before = startChange();
        chain.takeOut(i);
        endChange(before);
        return angle;
    }

    public int shed() {
        Chain chain = present.chain;
        Chain rest = copies[0];
        rest.size = 0;
        for (int i = 0; i < chain.size; i++) {
            if (chain.held[i] == 1 || chain.pullOfNeighbors(i) <= 0) {
                rest.append(chain, i);
            }
        }
        if (rest.size == 0) {
            return STATE;
        }
        int shed = chain.size - rest.size;
        int before = startChange();
        chain.takeMagnets(rest);
        endChange(before);
        return shed;
    }

    public int reverse() {
        Chain chain = present.chain;
        Chain reversed = copies[0];
        reversed.size = 0;
        for (int i = chain.size - 1; i >= 0; i--) {
            reversed.append(chain, i);
        }
        reversed.mirror();
        int others = chain.differencesFrom(reversed);
        int before = startChange();
        chain.takeMagnets(reversed);
        endChange(before);
        return others;
    }

    public int hold(int i, int on) {
        if (!isMagnet(i) || !isWithin(on, 0, 1)) {
            return BAD;
        }
        int wasHeld = present.chain.held[i];
        int before = startChange();
        present.chain.held[i] = on;
        endChange(before);
        return wasHeld;
    }

    public int push(int i, int by) {
        if (!isMagnet(i) || !isPush(by)) {
            return BAD;
        }
        if (present.chain.held[i] == 1) {
            return STATE;
        }
        int before = startChange();
        present.chain.turn(i, by);
        present.books.pushes++;
        return endChange(before);
    }

    public int set(int what, int value) {
        if (!isSetting(what, value)) {
            return BAD;
        }
        Chain chain = present.chain;
        int before = startChange();
        switch (what) {
            case 0: chain.coupling = value; break;
            case 1: chain.depth = value; break;
            case 2: chain.strength = value; break;
            default: chain.side = value; break;
        }
        return endChange(before);
    }

    public int goal(int i, int angle) {
        if (!isMagnet(i) || angle != NONE && !isAngle(angle)) {
            return BAD;
        }
        int previous = present.chain.goals[i];
        int before = startChange();
        present.chain.goals[i] = angle;
        endChange(before);
        return previous;
    }

    public int undo() {
        if (undoable <= 0 || undoable > history.length) {
            return STATE;
        }
        undoable--;
        present.takeFrom(history[undoable]);
        return undoable;
    }

    // ---- what is told

    public int told(int what) {
        Chain chain = present.chain;
        Books books = present.books;
        switch (what) {
            case 0: return chain.size;
            case 1: return chain.energy();
            case 2: return books.work;
            case 3: return books.heat;
            case 4: return chain.coupling;
            case 5: return chain.depth;
            case 6: return chain.strength;
            case 7: return chain.side;
            case 8: return books.turns;
            case 9: return books.pushes;
            case 10: return books.logged;
            case 11: return chain.walls();
            case 12: return chain.goalsMissed();
            case 13: return chain.heldOnes();
            case 14: return text.length;
            case 15: return undoable;
            default: return BAD;
        }
    }

    public int magnet(int i, int what) {
        if (!isMagnet(i)) {
            return BAD;
        }
        Chain chain = present.chain;
        switch (what) {
            case 0: return chain.angles[i];
            case 1: return chain.held[i];
            case 2: return chain.goals[i];
            case 3: return chain.freedBy(i, 1);
            case 4: return chain.freedBy(i, -1);
            case 5: return chain.partOf(i, chain.angles[i]);
            default: return BAD;
        }
    }

    public int log(int k, int what) {
        if (k < 0 || !isWithin(what, 0, 2)) {
            return BAD;
        }
        Books books = present.books;
        if (k >= books.logged) {
            return NONE;
        }
        int entry = books.logged - 1 - k;
        switch (what) {
            case 0: return books.loggedMagnets[entry];
            case 1: return books.loggedDirections[entry];
            default: return books.loggedHeats[entry];
        }
    }

    public int points(int side) {
        return isAngle(side) ? present.chain.pointsTo(side) : BAD;
    }

    public float mean() {
        int n = present.chain.size;
        // No chain is empty; the divisor is looked at all the same, as no division may answer NaN.
        return n > 0 ? (float) present.chain.energy() / (float) n : 0.0f;
    }

    // ---- what if: everything happens in a copy

    public int moved(int i, int by) {
        if (!isMagnet(i) || !isPush(by)) {
            return BAD;
        }
        if (present.chain.held[i] == 1) {
            return STATE;
        }
        Chain copy = copies[0];
        copy.takeFrom(present.chain);
        copy.turn(i, by);
        return copy.settle(null);
    }

    public int loop(int most, int step, int what) {
        if (!isLoop(most, step) || !isWithin(what, 0, 4)) {
            return BAD;
        }
        Chain copy = copies[0];
        copy.takeFrom(present.chain);
        int up = most / step;
        int area = 0;
        int pointsAtZero = 0;
        int firstWithout = NONE;
        int turns = 0;
        int points = 0;
        for (int k = 0; k <= 5 * up; k++) {
            boolean isBehindMost = k > up;
            boolean isDown = isBehindMost && k <= 3 * up;
            int before = points;
            // A negative strength is left as it is: c(k + 4) is -c(k), so it acts like the opposite side.
            copy.strength = stepsUp(k, up) * step;
            turns += copy.settle(null);
            points = copy.pointsTo(copy.side);
            if (isBehindMost) {
                area += (before + points) * (isDown ? -step : step);
            }
            if (k == 2 * up) {
                pointsAtZero = points;
            }
            if (isDown && points <= 0 && firstWithout == NONE) {
                firstWithout = copy.strength;
            }
        }
        switch (what) {
            case 0: return area;
            case 1: return pointsAtZero;
            case 2: return firstWithout;
            case 3: return turns;
            default: return points;
        }
    }

    public int solve(int most, int what) {
        if (!isWithin(most, 0, MOST_PUSHES) || !isWithin(what, 0, 2)) {
            return BAD;
        }
        if (present.chain.goalsMissed() == 0) {
            return what == 0 ? 0 : NONE;
        }
        for (int i = 0; i < copies.length; i++) {
            copies[i].takeFrom(present.chain);
        }
        for (int pushes = 1; pushes <= most; pushes++) {
            int first = firstPush(copies, 0, pushes);
            if (first != NONE) {
                switch (what) {
                    case 0: return pushes;
                    case 1: return magnetOf(first);
                    default: return directionOf(first);
                }
            }
        }
        return NONE;
    }

    // ---- the text

    public int write(int code) {
        if (!isWithin(code, 32, 126)) {
            return BAD;
        }
        return text.append(code) ? text.length : FULL;
    }

    public int wipe() {
        int previous = text.length;
        text.length = 0;
        return previous;
    }

    public int load() {
        Chain read = copies[0];
        if (!text.readInto(read)) {
            return STATE;
        }
        int before = startChange();
        present.chain.takeMagnets(read);
        endChange(before);
        return present.chain.size;
    }

    public int fault(int what) {
        switch (what) {
            case 0: return text.faultKind;
            case 1: return text.faultPlace;
            default: return BAD;
        }
    }

    // ---- images

    public int keep(int i) {
        if (!isWithin(i, 0, IMAGES - 1)) {
            return BAD;
        }
        images[i].takeFrom(present);
        kept[i] = true;
        return present.chain.size;
    }

    public int back(int i) {
        if (!isWithin(i, 0, IMAGES - 1)) {
            return BAD;
        }
        if (!kept[i]) {
            return STATE;
        }
        record();
        present.takeFrom(images[i]);
        return present.chain.size;
    }

    // ---- what the methods share

    private static boolean isWithin(int value, int least, int most) {
        return value >= least && value <= most;
    }

    private static boolean isAngle(int value) {
        return isWithin(value, 0, LAST_ANGLE);
    }

    private static boolean isPush(int by) {
        return by != 0 && isWithin(by, -HALF_TURN, HALF_TURN);
    }

    private static boolean isSetting(int what, int value) {
        switch (what) {
            case 0: return isWithin(value, 0, MOST_COUPLING);
            case 1: return isWithin(value, 0, MOST_DEPTH);
            case 2: return isWithin(value, 0, MOST_STRENGTH);
            case 3: return isAngle(value);
            default: return false;
        }
    }

    private static boolean isLoop(int most, int step) {
        return isWithin(most, 1, MOST_STRENGTH) && isWithin(step, 1, MOST_STRENGTH)
                && step * 10 >= most && most % step == 0;
    }

    private boolean isMagnet(int i) {
        return isWithin(i, 0, present.chain.size - 1);
    }

    /** Records the present state and answers its energy, which endChange() wants to know. */
    private int startChange() {
        record();
        return present.chain.energy();
    }

    /** Counts the work and settles; answers the turns done. */
    private int endChange(int energyBefore) {
        present.books.work += present.chain.energy() - energyBefore;
        return present.chain.settle(present.books);
    }

    private void record() {
        if (undoable >= history.length) {
            dropOldest();
        }
        history[undoable].takeFrom(present);
        undoable++;
    }

    /** The oldest state's rows are used again, for the latest one. */
    private void dropOldest() {
        State oldest = history[0];
        for (int i = 1; i < history.length; i++) {
            history[i - 1] = history[i];
        }
        undoable = history.length - 1;
        history[undoable] = oldest;
    }

    /** How many steps the field stands above 0 at place k of a loop with so many steps up. */
    private static int stepsUp(int k, int up) {
        if (k <= up) {
            return k;
        }
        return k <= 3 * up ? 2 * up - k : k - 4 * up;
    }

    /**
     * Looks for just so many pushes that solve the chain at a level, where fewer don't; answers the first
     * of them, NONE if there are none. A push is told by 2 * magnet, and 1 more for the direction -1.
     */
    private static int firstPush(Chain[] levels, int level, int pushes) {
        if (pushes < 1 || level < 0 || level >= levels.length - 1) {
            return NONE;
        }
        Chain here = levels[level];
        Chain next = levels[level + 1];
        for (int push = 0; push < 2 * here.size; push++) {
            if (here.held[magnetOf(push)] == 1) {
                continue;
            }
            next.takeAngles(here);
            next.turn(magnetOf(push), directionOf(push));
            next.settle(null);
            if (pushes == 1) {
                if (next.goalsMissed() == 0) {
                    return push;
                }
            } else if (next.differencesFrom(here) > 0 && firstPush(levels, level + 1, pushes - 1) != NONE) {
                // A push that springs back leads nowhere that fewer pushes don't reach.
                return push;
            }
        }
        return NONE;
    }

    private static int magnetOf(int push) {
        return push / 2;
    }

    private static int directionOf(int push) {
        return push % 2 == 0 ? 1 : -1;
    }

    private static int cosine(int k) {
        return COSINES[k & LAST_ANGLE];
    }

    private static int pull(int a, int b) {
        return 10 * COSINES[(a - b) & LAST_ANGLE] - 3 * COSINES[a & LAST_ANGLE] * COSINES[b & LAST_ANGLE];
    }

    /** The magnets and what acts on them. Of each row only the first places, up to size, count. */
    private static final class Chain {
        int size = FIRST_MAGNETS;
        final int[] angles = new int[MOST_MAGNETS];
        final int[] held = new int[MOST_MAGNETS];
        final int[] goals = new int[MOST_MAGNETS];
        int coupling = 10;
        int depth = 300;
        int strength = 0;
        int side = 0;

        Chain() {
            Arrays.fill(goals, NONE);
        }

        void takeFrom(Chain other) {
            takeMagnets(other);
            coupling = other.coupling;
            depth = other.depth;
            strength = other.strength;
            side = other.side;
        }

        void takeMagnets(Chain other) {
            size = other.size;
            takeAngles(other);
            System.arraycopy(other.held, 0, held, 0, MOST_MAGNETS);
            System.arraycopy(other.goals, 0, goals, 0, MOST_MAGNETS);
        }

        void takeAngles(Chain other) {
            System.arraycopy(other.angles, 0, angles, 0, MOST_MAGNETS);
        }

        void startWith(int n) {
            size = n;
            Arrays.fill(angles, 0);
            Arrays.fill(held, 0);
            Arrays.fill(goals, NONE);
        }

        void putIn(int place, int angle) {
            for (int i = size; i > place; i--) {
                copyMagnet(i, this, i - 1);
            }
            angles[place] = angle;
            held[place] = 0;
            goals[place] = NONE;
            size++;
        }

        void takeOut(int place) {
            size--;
            for (int i = place; i < size; i++) {
                copyMagnet(i, this, i + 1);
            }
        }

        void append(Chain other, int i) {
            copyMagnet(size, other, i);
            size++;
        }

        private void copyMagnet(int to, Chain other, int from) {
            angles[to] = other.angles[from];
            held[to] = other.held[from];
            goals[to] = other.goals[from];
        }

        /** Changes angles and goals to what they are when seen from the other end. */
        void mirror() {
            for (int i = 0; i < size; i++) {
                angles[i] = (HALF_TURN - angles[i]) & LAST_ANGLE;
                if (goals[i] != NONE) {
                    goals[i] = (HALF_TURN - goals[i]) & LAST_ANGLE;
                }
            }
        }

        void turn(int i, int by) {
            angles[i] = (angles[i] + by) & LAST_ANGLE;
        }

        int energy() {
            int sum = 0;
            for (int i = 0; i < size; i++) {
                int a = angles[i];
                sum += coupling * pullOn(a, i + 1) + coupling / 8 * pullOn(a, i + 2) + partOfField(a);
            }
            return sum;
        }

        /** The part of the energy that belongs to a magnet, if it had this angle. */
        int partOf(int i, int angle) {
            return coupling * (pullOn(angle, i - 1) + pullOn(angle, i + 1))
                    + coupling / 8 * (pullOn(angle, i - 2) + pullOn(angle, i + 2))
                    + partOfField(angle);
        }

        int freedBy(int i, int direction) {
            return partOf(i, angles[i]) - partOf(i, angles[i] + direction);
        }

        int pullOfNeighbors(int i) {
            return coupling * (pullOn(angles[i], i - 1) + pullOn(angles[i], i + 1));
        }

        /** The pull of an angle and the angle at a place, 0 where no magnet stands. */
        private int pullOn(int angle, int place) {
            return place >= 0 && place < size ? pull(angle, angles[place]) : 0;
        }

        private int partOfField(int angle) {
            return -strength * cosine(angle - side) * 10;
        }

        /** Answers the turns done; the books may be null, in a copy whose turns nobody asks for. */
        int settle(Books books) {
            for (int done = 0; done < MOST_TURNS; done++) {
                if (!settleOnce(books)) {
                    return done;
                }
            }
            return MOST_TURNS;
        }

        private boolean settleOnce(Books books) {
            int best = -1;
            int bestDirection = 0;
            int bestFreed = depth;
            for (int i = 0; i < size; i++) {
                if (held[i] == 1) {
                    continue;
                }
                int part = partOf(i, angles[i]);
                int up = part - partOf(i, angles[i] + 1);
                int down = part - partOf(i, angles[i] - 1);
                if (Math.max(up, down) > bestFreed) {
                    best = i;
                    bestDirection = up >= down ? 1 : -1;
                    bestFreed = Math.max(up, down);
                }
            }
            if (best < 0) {
                return false;
            }
            turn(best, bestDirection);
            if (books != null) {
                books.enter(best, bestDirection, bestFreed);
            }
            return true;
        }

        int pointsTo(int toSide) {
            int sum = 0;
            for (int i = 0; i < size; i++) {
                sum += cosine(angles[i] - toSide);
            }
            return sum;
        }

        int walls() {
            int count = 0;
            for (int i = 1; i < size; i++) {
                count += angles[i - 1] != angles[i] ? 1 : 0;
            }
            return count;
        }

        int goalsMissed() {
            int count = 0;
            for (int i = 0; i < size; i++) {
                count += goals[i] != NONE && goals[i] != angles[i] ? 1 : 0;
            }
            return count;
        }

        int heldOnes() {
            int count = 0;
            for (int i = 0; i < size; i++) {
                count += held[i];
            }
            return count;
        }

        /** At how many places another chain of this size has another angle. */
        int differencesFrom(Chain other) {
            int count = 0;
            for (int i = 0; i < size; i++) {
                count += angles[i] != other.angles[i] ? 1 : 0;
            }
            return count;
        }
    }

    /** What has been counted, and the log of the latest turns, the latest one last. */
    private static final class Books {
        int work = 0;
        int heat = 0;
        int turns = 0;
        int pushes = 0;
        int logged = 0;
        final int[] loggedMagnets = new int[MOST_LOGGED];
        final int[] loggedDirections = new int[MOST_LOGGED];
        final int[] loggedHeats = new int[MOST_LOGGED];

        void takeFrom(Books other) {
            work = other.work;
            heat = other.heat;
            turns = other.turns;
            pushes = other.pushes;
            logged = other.logged;
            System.arraycopy(other.loggedMagnets, 0, loggedMagnets, 0, MOST_LOGGED);
            System.arraycopy(other.loggedDirections, 0, loggedDirections, 0, MOST_LOGGED);
            System.arraycopy(other.loggedHeats, 0, loggedHeats, 0, MOST_LOGGED);
        }

        void clear() {
            work = 0;
            heat = 0;
            turns = 0;
            pushes = 0;
            logged = 0;
        }

        void enter(int magnet, int direction, int freed) {
            if (logged >= MOST_LOGGED) {
                dropOldestTurn();
            }
            loggedMagnets[logged] = magnet;
            loggedDirections[logged] = direction;
            loggedHeats[logged] = freed;
            logged++;
            turns++;
            heat += freed;
        }

        private void dropOldestTurn() {
            logged = MOST_LOGGED - 1;
            System.arraycopy(loggedMagnets, 1, loggedMagnets, 0, logged);
            System.arraycopy(loggedDirections, 1, loggedDirections, 0, logged);
            System.arraycopy(loggedHeats, 1, loggedHeats, 0, logged);
        }
    }

    /** All that undo() and back() restore. */
    private static final class State {
        final Chain chain = new Chain();
        final Books books = new Books();

        void takeFrom(State other) {
            chain.takeFrom(other.chain);
            books.takeFrom(other.books);
        }
    }

    /** The bytes written, and the latest fault found in them (NONE at first). */
    private static final class Text {
        final int[] codes = new int[MOST_CODES];
        int length = 0;
        int faultKind = NONE;
        int faultPlace = NONE;

        boolean append(int code) {
            if (length >= MOST_CODES) {
                return false;
            }
            codes[length] = code;
            length++;
            return true;
        }

        /** Reads the magnets into a chain, whose other numbers stay; answers false if there is a fault. */
        boolean readInto(Chain chain) {
            boolean isBehindDigit = false;
            chain.size = 0;
            for (int place = 0; place < length; place++) {
                int code = codes[place];
                boolean isDigit = isWithin(code, '0', '7');
                if (isDigit) {
                    if (chain.size >= MOST_MAGNETS) {
                        return refuse(ELEVENTH, place);
                    }
                    chain.putIn(chain.size, code - '0');
                } else if (code == '!' && isBehindDigit && chain.size > 0) {
                    chain.held[chain.size - 1] = 1;
                } else if (code != ' ') {
                    return refuse(CANNOT_STAND, place);
                }
                isBehindDigit = isDigit;
            }
            return chain.size > 0 || refuse(NO_MAGNET, length);
        }

        private boolean refuse(int kind, int place) {
            faultKind = kind;
            faultPlace = place;
            return false;
        }
    }
}
