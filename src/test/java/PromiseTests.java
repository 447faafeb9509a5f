/** Each promise of the document by itself: ordinary inputs, edges and wrong inputs, worked out by hand. */
public final class PromiseTests {
    private static final int BAD = -1000000001, STATE = -1000000002, FULL = -1000000003, NONE = -1000000009;
    private static final int LEAST = Integer.MIN_VALUE, MOST = Integer.MAX_VALUE;

    private static final int COUPLING = 0, DEPTH = 1, STRENGTH = 2, SIDE = 3;
    private static final int N = 0, ENERGY = 1, WORK = 2, HEAT = 3, TURNS = 8, PUSHES = 9, LOGGED = 10;
    private static final int WALLS = 11, MISSED = 12, HELD = 13, LENGTH = 14, UNDOABLE = 15;

    private static final Due due = new Due();

    public static void main(String[] args) {
        newObject();
        begin();
        beginSettles();
        insert();
        remove();
        shed();
        shedCountsNeighborsOnly();
        reverse();
        hold();
        push();
        set();
        setSettles();
        goal();
        undo();
        undoRestoresAll();
        told();
        magnet();
        pulls();
        log();
        settlingOrder();
        points();
        mean();
        moved();
        loop();
        loopIsLikeSettingTheField();
        solve();
        solveTakesTheFirstWay();
        write();
        wipe();
        load();
        loadFaults();
        fault();
        keep();
        back();
        wrongCallsChangeNothing();
        fullChain();
        due.end("PromiseTests");
    }

    private static void angles(String call, MagnetChain x, String want) {
        due.is("told(0) behind " + call, x.told(N), want.length());
        for (int i = 0; i < want.length(); i++) {
            due.is("magnet(" + i + ", 0) behind " + call, x.magnet(i, 0), want.charAt(i) - '0');
        }
    }

    private static void newObject() {
        MagnetChain x = new MagnetChain();
        int[] want = {4, -6400, 0, 0, 10, 300, 0, 0, 0, 0, 0, 0, 0, 0, 0, 0};
        for (int what = 0; what < want.length; what++) {
            due.is("new: told(" + what + ")", x.told(what), want[what]);
        }
        for (int i = 0; i < 4; i++) {
            due.is("new: angle " + i, x.magnet(i, 0), 0);
            due.is("new: held " + i, x.magnet(i, 1), 0);
            due.is("new: goal " + i, x.magnet(i, 2), NONE);
        }
        due.is("new: fault(0)", x.fault(0), NONE);
        due.is("new: fault(1)", x.fault(1), NONE);
        due.is("new: back(0)", x.back(0), STATE);
        due.is("new: back(1)", x.back(1), STATE);
        due.is("new: undo()", x.undo(), STATE);
        due.is("new: log(0, 0)", x.log(0, 0), NONE);
        MagnetChain other = new MagnetChain();
        other.push(0, 4);
        due.is("another object's turns", x.told(TURNS), 0);
    }

    private static void begin() {
        MagnetChain x = new MagnetChain();
        due.is("begin(0)", x.begin(0), BAD);
        due.is("begin(11)", x.begin(11), BAD);
        due.is("begin(least)", x.begin(LEAST), BAD);
        due.is("told(15) behind wrong calls", x.told(UNDOABLE), 0);
        x.push(0, 4);
        x.set(DEPTH, 500);
        x.hold(1, 1);
        x.goal(2, 3);
        due.is("begin(10)", x.begin(10), 4);
        angles("begin(10)", x, "0000000000");
        int[] want = {10, -19600, 0, 0, 10, 500, 0, 0, 0, 0, 0, 0, 0, 0, 0, 5};
        for (int what = 0; what < want.length; what++) {
            due.is("told(" + what + ") behind begin(10)", x.told(what), want[what]);
        }
        due.is("magnet(1, 1) behind begin(10)", x.magnet(1, 1), 0);
        due.is("magnet(2, 2) behind begin(10)", x.magnet(2, 2), NONE);
        due.is("log(0, 0) behind begin(10)", x.log(0, 0), NONE);
        due.is("begin(1)", x.begin(1), 10);
        due.is("energy of one", x.told(ENERGY), 0);
        due.is("work of begin(1)", x.told(WORK), 0);
        due.is("undo()", x.undo(), 5);
        due.is("N behind undo()", x.told(N), 10);
    }

    private static void beginSettles() {
        MagnetChain x = new MagnetChain();
        x.set(COUPLING, 0);
        x.set(DEPTH, 2000);
        x.set(SIDE, 4);
        x.set(STRENGTH, 100);
        due.is("begin(2) in a field", x.begin(2), 4);
        angles("begin(2) in a field", x, "44");
        due.is("its work", x.told(WORK), 0);
        due.is("its heat", x.told(HEAT), 40000);
        due.is("its turns", x.told(TURNS), 8);
        due.is("its log", x.told(LOGGED), 8);
        due.is("its strength", x.told(6), 100);
        due.is("its side", x.told(7), 4);
        due.is("its latest turn", x.log(0, 0), 1);
        due.is("its first turn", x.log(7, 0), 0);
    }

    private static void insert() {
        MagnetChain x = new MagnetChain();
        due.is("insert(-1, 0)", x.insert(-1, 0), BAD);
        due.is("insert(5, 0)", x.insert(5, 0), BAD);
        due.is("insert(0, 8)", x.insert(0, 8), BAD);
        due.is("insert(0, -1)", x.insert(0, -1), BAD);
        due.is("insert(0, NONE)", x.insert(0, NONE), BAD);
        due.is("insert(0, 3)", x.insert(0, 3), 5);
        angles("insert(0, 3)", x, "00000");
        due.is("its work", x.told(WORK), 1540);
        due.is("its heat", x.told(HEAT), 3740);
        due.is("its turns", x.told(TURNS), 3);
        x = Chains.still("123");
        x.hold(1, 1);
        x.goal(1, 5);
        x.goal(2, 6);
        due.is("insert(1, 7)", x.insert(1, 7), 4);
        angles("insert(1, 7)", x, "1723");
        due.is("the new one is held", x.magnet(1, 1), 0);
        due.is("the new one's goal", x.magnet(1, 2), NONE);
        due.is("the shifted one is held", x.magnet(2, 1), 1);
        due.is("the shifted one's goal", x.magnet(2, 2), 5);
        due.is("the next one's goal", x.magnet(3, 2), 6);
        due.is("insert(4, 4)", x.insert(4, 4), 5);
        due.is("insert(0, 0)", x.insert(0, 0), 6);
        angles("insert at both ends", x, "017234");
        for (int n = 7; n <= 10; n++) {
            due.is("insert to " + n, x.insert(0, 0), n);
        }
        int before = x.told(UNDOABLE);
        due.is("an eleventh", x.insert(10, 7), FULL);
        due.is("an eleventh at no place", x.insert(11, 7), BAD);
        due.is("an eleventh with no angle", x.insert(0, 8), BAD);
        due.is("told(15) behind them", x.told(UNDOABLE), before);
    }

    private static void remove() {
        MagnetChain x = new MagnetChain();
        due.is("remove(-1)", x.remove(-1), BAD);
        due.is("remove(4)", x.remove(4), BAD);
        due.is("remove(3)", x.remove(3), 0);
        due.is("its work", x.told(WORK), 2200);
        due.is("energy behind it", x.told(ENERGY), -4200);
        x = Chains.still("1!23!4");
        x.goal(2, 7);
        due.is("remove(1)", x.remove(1), 2);
        angles("remove(1)", x, "134");
        due.is("held behind remove(1)", x.magnet(1, 1), 1);
        due.is("goal behind remove(1)", x.magnet(1, 2), 7);
        due.is("goal of the last", x.magnet(2, 2), NONE);
        due.is("remove(0)", x.remove(0), 1);
        due.is("remove(1)", x.remove(1), 4);
        angles("removing all but one", x, "3");
        due.is("remove(0) of one", x.remove(0), STATE);
        due.is("remove(1) of one", x.remove(1), BAD);
        due.is("held are", x.told(HELD), 1);
        due.is("insert behind remove", x.insert(1, 0), 2);
        due.is("its goal", x.magnet(1, 2), NONE);
        due.is("whether it is held", x.magnet(1, 1), 0);
    }

    private static MagnetChain weak(String text) {
        MagnetChain x = Chains.still(text);
        x.set(COUPLING, 1);
        return x;
    }

    private static void shed() {
        MagnetChain x = weak("0040");
        due.is("shed() of 0040", x.shed(), 2);
        angles("shed() of 0040", x, "00");
        due.is("told(15) behind shed()", x.told(UNDOABLE), 5);
        x = weak("040");
        due.is("shed() of 040", x.shed(), STATE);
        due.is("told(15) behind STATE", x.told(UNDOABLE), 4);
        angles("shed() with none left", x, "040");
        x.goal(1, 4);
        x.hold(1, 1);
        due.is("shed() of 04!0", x.shed(), 2);
        angles("shed() of 04!0", x, "4");
        due.is("the held one stays held", x.magnet(0, 1), 1);
        due.is("and keeps its goal", x.magnet(0, 2), 4);
        due.is("work", x.told(WORK), 6400 + 400 - 400);
        due.is("shed() of one not held", x.hold(0, 0) == 1 ? x.shed() : -1, 0);
        x = weak("04");
        x.set(COUPLING, 0);
        due.is("shed() without coupling", x.shed(), 0);
        due.is("told(15) behind shedding none", x.told(UNDOABLE), 6);
    }

    private static void shedCountsNeighborsOnly() {
        MagnetChain x = Chains.still("024");
        x.set(COUPLING, 8);
        due.is("turns in 024", x.told(TURNS), 0);
        due.is("shed() of 024", x.shed(), 0);
        angles("shed() of 024", x, "024");
    }

    private static void reverse() {
        MagnetChain x = Chains.still("01!23");
        x.goal(0, 7);
        x.goal(3, 4);
        due.is("reverse() of 0123", x.reverse(), 4);
        angles("reverse()", x, "1234");
        due.is("held 1", x.magnet(1, 1), 0);
        due.is("held 2", x.magnet(2, 1), 1);
        due.is("goal 0", x.magnet(0, 2), 0);
        due.is("goal 1", x.magnet(1, 2), NONE);
        due.is("goal 3", x.magnet(3, 2), 5);
        due.is("told(15) behind reverse()", x.told(UNDOABLE), 6);
        x = Chains.still("2");
        due.is("reverse() of 2", x.reverse(), 0);
        x = Chains.still("04");
        due.is("reverse() of 04", x.reverse(), 0);
        x = Chains.still("567");
        due.is("reverse() of 567", x.reverse(), 0);
        angles("reverse() of 567", x, "567");
        x = Chains.still("566");
        due.is("reverse() of 566", x.reverse(), 2);
        angles("reverse() of 566", x, "667");
        x = Chains.still("0");
        x.set(DEPTH, 0);
        x.set(STRENGTH, 1);
        due.is("reverse() in a field", x.reverse(), 1);
        angles("reverse() in a field", x, "0");
        due.is("its work", x.told(WORK), 6400 - 100 + 200);
        due.is("its turns", x.told(TURNS), 4);
    }

    private static void hold() {
        MagnetChain x = new MagnetChain();
        due.is("hold(-1, 0)", x.hold(-1, 0), BAD);
        due.is("hold(4, 0)", x.hold(4, 0), BAD);
        due.is("hold(0, 2)", x.hold(0, 2), BAD);
        due.is("hold(0, -1)", x.hold(0, -1), BAD);
        due.is("hold(0, 1)", x.hold(0, 1), 0);
        due.is("hold(0, 1) again", x.hold(0, 1), 1);
        due.is("told(13)", x.told(HELD), 1);
        due.is("told(15)", x.told(UNDOABLE), 2);
        x.set(COUPLING, 0);
        x.set(SIDE, 3);
        due.is("turns of those not held", x.set(STRENGTH, 100), 9);
        angles("a field on a held one", x, "0333");
        due.is("hold(0, 0)", x.hold(0, 0), 1);
        angles("letting go", x, "3333");
        due.is("turns behind letting go", x.told(TURNS), 12);
    }

    private static void push() {
        MagnetChain x = new MagnetChain();
        due.is("push(0, 0)", x.push(0, 0), BAD);
        due.is("push(0, 5)", x.push(0, 5), BAD);
        due.is("push(0, -5)", x.push(0, -5), BAD);
        due.is("push(-1, 1)", x.push(-1, 1), BAD);
        due.is("push(4, 1)", x.push(4, 1), BAD);
        due.is("push(0, least)", x.push(0, LEAST), BAD);
        due.is("told(9) behind wrong pushes", x.told(PUSHES), 0);
        due.is("push(0, 4)", x.push(0, 4), 4);
        due.is("its work", x.told(WORK), 4400);
        due.is("its heat", x.told(HEAT), 4400);
        due.is("told(8)", x.told(TURNS), 4);
        due.is("told(9)", x.told(PUSHES), 1);
        due.is("told(15)", x.told(UNDOABLE), 1);
        due.is("push(3, -3)", x.push(3, -3), 3);
        due.is("its direction", x.log(0, 1), 1);
        x.hold(1, 1);
        due.is("push(1, 1) of a held one", x.push(1, 1), STATE);
        due.is("push(1, 0) of a held one", x.push(1, 0), BAD);
        due.is("told(9) behind STATE", x.told(PUSHES), 2);
        x.set(DEPTH, 2000);
        due.is("push(0, -1)", x.push(0, -1), 0);
        due.is("angle behind it", x.magnet(0, 0), 7);
        due.is("work behind it", x.told(WORK), 4400 + 3740 + 660);
        due.is("push(0, 2)", x.push(0, 2), 0);
        due.is("angle behind it", x.magnet(0, 0), 1);
    }

    private static void set() {
        MagnetChain x = new MagnetChain();
        int[] most = {20, 2000, 100, 7};
        for (int what = 0; what <= 3; what++) {
            due.is("set(" + what + ", -1)", x.set(what, -1), BAD);
            due.is("set(" + what + ", too much)", x.set(what, most[what] + 1), BAD);
            due.is("set(" + what + ", least)", x.set(what, LEAST), BAD);
        }
        due.is("set(4, 0)", x.set(4, 0), BAD);
        due.is("set(-1, 0)", x.set(-1, 0), BAD);
        due.is("told(15) behind them", x.told(UNDOABLE), 0);
        for (int what = 0; what <= 3; what++) {
            due.is("set(" + what + ", most)", x.set(what, most[what]), 0);
            due.is("told(" + (what + 4) + ")", x.told(what + 4), most[what]);
            due.is("told(15)", x.told(UNDOABLE), what + 1);
        }
        for (int what = 0; what <= 3; what++) {
            x = new MagnetChain();
            x.set(what, 0);
            due.is("told(" + (what + 4) + ") behind set to 0", x.told(what + 4), 0);
        }
        int[] couplings = {0, 7, 8, 15, 16, 20};
        int[] energies = {0, -4200, -5200, -9400, -10400, -12800};
        x = new MagnetChain();
        for (int i = 0; i < couplings.length; i++) {
            x.set(COUPLING, couplings[i]);
            due.is("energy with coupling " + couplings[i], x.told(ENERGY), energies[i]);
            due.is("work with coupling " + couplings[i], x.told(WORK), energies[i] + 6400);
        }
        due.is("work by a field", x.set(STRENGTH, 50) == 0 ? x.told(WORK) : -1, -6400 - 20000);
    }

    /** A turn must free more than the depth, not just as much. */
    private static void setSettles() {
        MagnetChain x = new MagnetChain();
        x.set(COUPLING, 0);
        x.set(SIDE, 4);
        due.is("set(2, 10)", x.set(STRENGTH, 10), 0);
        due.is("set(2, 11)", x.set(STRENGTH, 11), 16);
        due.is("work", x.told(WORK), 6400 + 40 * 110);
        due.is("heat", x.told(HEAT), 2 * 40 * 110);
        x = new MagnetChain();
        x.set(COUPLING, 0);
        x.set(SIDE, 4);
        x.set(STRENGTH, 10);
        due.is("set(1, 300)", x.set(DEPTH, 300), 0);
        due.is("set(1, 299)", x.set(DEPTH, 299), 16);
        due.is("set(3, 0)", x.set(SIDE, 0), 16);
        due.is("work of it", x.told(WORK), 6400 + 4000 + 8000);
    }

    private static void goal() {
        MagnetChain x = new MagnetChain();
        due.is("goal(-1, 0)", x.goal(-1, 0), BAD);
        due.is("goal(4, 0)", x.goal(4, 0), BAD);
        due.is("goal(4, NONE)", x.goal(4, NONE), BAD);
        due.is("goal(0, 8)", x.goal(0, 8), BAD);
        due.is("goal(0, -1)", x.goal(0, -1), BAD);
        due.is("goal(0, BAD)", x.goal(0, BAD), BAD);
        due.is("goal(0, 7)", x.goal(0, 7), NONE);
        due.is("goal(0, 0)", x.goal(0, 0), 7);
        due.is("goal(0, NONE)", x.goal(0, NONE), 0);
        due.is("goal(0, NONE) again", x.goal(0, NONE), NONE);
        due.is("told(15)", x.told(UNDOABLE), 4);
    }

    private static void undo() {
        MagnetChain x = new MagnetChain();
        due.is("undo() of nothing", x.undo(), STATE);
        for (int k = 1; k <= 9; k++) {
            x.set(DEPTH, k);
            due.is("told(15)", x.told(UNDOABLE), Math.min(k, 8));
        }
        for (int k = 8; k >= 1; k--) {
            due.is("undo()", x.undo(), k - 1);
            due.is("depth behind undo()", x.told(5), k);
        }
        due.is("undo() of no more", x.undo(), STATE);
        due.is("depth behind it", x.told(5), 1);
        x.set(DEPTH, 77);
        x.set(DEPTH, 78);
        due.is("undo() again", x.undo(), 1);
        due.is("depth behind it", x.told(5), 77);
    }

    private static void undoRestoresAll() {
        MagnetChain x = new MagnetChain();
        x.push(0, 2);
        x.hold(2, 1);
        x.goal(3, 6);
        int[] before = new int[14];
        for (int what = 0; what < 14; what++) {
            before[what] = x.told(what);
        }
        x.keep(0);
        x.begin(2);
        Chains.type(x, "8");
        x.load();
        x.keep(1);
        due.is("undo()", x.undo(), 3);
        for (int what = 0; what < 14; what++) {
            due.is("told(" + what + ") behind undo()", x.told(what), before[what]);
        }
        due.is("held behind undo()", x.magnet(2, 1), 1);
        due.is("goal behind undo()", x.magnet(3, 2), 6);
        due.is("log behind undo()", x.log(0, 2), 660);
        due.is("log behind undo()", x.log(1, 2), 1540);
        due.is("log behind undo()", x.log(2, 2), NONE);
        due.is("text behind undo()", x.told(LENGTH), 1);
        due.is("fault behind undo()", x.fault(0), 1);
        due.is("image behind undo()", x.back(1), 2);
        due.is("undo() of back()", x.undo(), 3);
        due.is("N behind it", x.told(N), 4);
        x.undo();
        due.is("goal behind undo()", x.magnet(3, 2), NONE);
        x.undo();
        due.is("held behind undo()", x.told(HELD), 0);
        x.undo();
        due.is("heat behind undo()", x.told(HEAT), 0);
        due.is("work behind undo()", x.told(WORK), 0);
        due.is("pushes behind undo()", x.told(PUSHES), 0);
        due.is("log behind undo()", x.log(0, 0), NONE);
        x.push(3, -2);
        x.begin(4);
        x.push(1, 2);
        x.undo();
        x.undo();
        logIsOfTwoTurns("undo()", x);
    }

    /** The log of push(3, -2), behind which it was overwritten by other turns. */
    private static void logIsOfTwoTurns(String call, MagnetChain x) {
        due.is("log(0, 0) behind " + call, x.log(0, 0), 3);
        due.is("log(0, 1) behind " + call, x.log(0, 1), 1);
        due.is("log(0, 2) behind " + call, x.log(0, 2), 660);
        due.is("log(1, 0) behind " + call, x.log(1, 0), 3);
        due.is("log(1, 1) behind " + call, x.log(1, 1), 1);
        due.is("log(1, 2) behind " + call, x.log(1, 2), 1540);
        due.is("log(2, 0) behind " + call, x.log(2, 0), NONE);
    }

    private static void told() {
        MagnetChain x = Chains.still("0!01 12!");
        due.is("told(-1)", x.told(-1), BAD);
        due.is("told(16)", x.told(16), BAD);
        due.is("told(least)", x.told(LEAST), BAD);
        due.is("told(most)", x.told(MOST), BAD);
        x.goal(0, 0);
        x.goal(1, 1);
        x.goal(4, 0);
        due.is("told(0)", x.told(N), 5);
        due.is("told(11)", x.told(WALLS), 2);
        due.is("told(12)", x.told(MISSED), 2);
        due.is("told(13)", x.told(HELD), 2);
        due.is("told(14)", x.told(LENGTH), 8);
        due.is("told(15)", x.told(UNDOABLE), 6);
        due.is("told(2)", x.told(WORK), 6400);
        due.is("told(11) of 0111", Chains.still("0111").told(WALLS), 1);
        due.is("told(11) of 1110", Chains.still("1110").told(WALLS), 1);
        due.is("told(11) of 5", Chains.still("5").told(WALLS), 0);
        x.set(STRENGTH, 3);
        due.is("told(1) in a field", x.told(ENERGY), -3 * 10 * (10 + 10 + 7 + 7 + 0));
        x.set(SIDE, 1);
        due.is("told(1) in another", x.told(ENERGY), -3 * 10 * (7 + 7 + 10 + 10 + 7));
    }

    private static void magnet() {
        MagnetChain x = Chains.still("01!2");
        due.is("magnet(-1, 0)", x.magnet(-1, 0), BAD);
        due.is("magnet(3, 0)", x.magnet(3, 0), BAD);
        due.is("magnet(0, -1)", x.magnet(0, -1), BAD);
        due.is("magnet(0, 6)", x.magnet(0, 6), BAD);
        due.is("magnet(most, 0)", x.magnet(MOST, 0), BAD);
        x.goal(1, 4);
        due.is("magnet(2, 0)", x.magnet(2, 0), 2);
        due.is("magnet(1, 1)", x.magnet(1, 1), 1);
        due.is("magnet(1, 2)", x.magnet(1, 2), 4);
        due.is("magnet(0, 2)", x.magnet(0, 2), NONE);
        x.set(STRENGTH, 2);
        due.is("magnet(1, 3)", x.magnet(1, 3), -140);
        due.is("magnet(1, 4)", x.magnet(1, 4), 60);
        due.is("magnet(1, 5)", x.magnet(1, 5), -140);
        x.set(STRENGTH, 0);
        x.set(COUPLING, 9);
        // U(0, 1) = -140, U(0, 2) = 0, U(1, 2) = 70, U(0, 0) = -200, U(2, 2) = 100.
        due.is("turns", x.told(TURNS), 0);
        due.is("magnet(0, 5)", x.magnet(0, 5), 9 * -140);
        due.is("magnet(1, 5)", x.magnet(1, 5), 9 * (-140 + 70));
        due.is("magnet(2, 5)", x.magnet(2, 5), 9 * 70);
        due.is("magnet(1, 3) to 2", x.magnet(1, 3), 9 * (-140 + 70 - 0 - 100));
        due.is("magnet(1, 4) to 0", x.magnet(1, 4), 9 * (-140 + 70 + 200 - 0));
        due.is("magnet(0, 4) to 7", x.magnet(0, 4), 9 * -140 - (9 * -147 - 70));
        x = Chains.still("0002!");
        int[] couplings = {7, 8, 9, 15, 16};
        int[] eighths = {0, 1, 1, 1, 2};
        for (int k = 0; k < couplings.length; k++) {
            x.set(COUPLING, couplings[k]);
            due.is("told(1), coupling " + couplings[k], x.told(ENERGY), couplings[k] * -400 + eighths[k] * -200);
            due.is("magnet(2, 5), coupling " + couplings[k], x.magnet(2, 5), couplings[k] * -200 + eighths[k] * -200);
            due.is("magnet(0, 5), coupling " + couplings[k], x.magnet(0, 5), couplings[k] * -200 + eighths[k] * -200);
            due.is("magnet(3, 3), coupling " + couplings[k], x.magnet(3, 3), couplings[k] * -140 + eighths[k] * -140);
        }
    }

    /** The pulls of all pairs of angles, as a chain of two tells them. */
    private static void pulls() {
        int[] c = {10, 7, 0, -7, -10, -7, 0, 7};
        for (int a = 0; a < 8; a++) {
            for (int b = 0; b < 8; b++) {
                MagnetChain x = weak("" + a + b);
                int want = 10 * c[a > b ? a - b : b - a] - 3 * c[a] * c[b];
                due.is("U(" + a + ", " + b + ")", x.told(ENERGY), want);
                due.is("part of 1 in " + a + b, x.magnet(1, 5), want);
            }
        }
    }

    private static void log() {
        MagnetChain x = new MagnetChain();
        due.is("log(-1, 0)", x.log(-1, 0), BAD);
        due.is("log(0, -1)", x.log(0, -1), BAD);
        due.is("log(0, 3)", x.log(0, 3), BAD);
        due.is("log(most, 3)", x.log(MOST, 3), BAD);
        due.is("log(most, 0)", x.log(MOST, 0), NONE);
        x.push(3, 3);
        int[] heats = {660, 1540, 1540};
        for (int k = 0; k < 3; k++) {
            due.is("log(" + k + ", 0)", x.log(k, 0), 3);
            due.is("log(" + k + ", 1)", x.log(k, 1), -1);
            due.is("log(" + k + ", 2)", x.log(k, 2), heats[k]);
        }
        due.is("log(3, 0)", x.log(3, 0), NONE);
        x.remove(0);
        due.is("log(0, 0) behind remove(0)", x.log(0, 0), 3);
        for (int k = 0; k < 7; k++) {
            x.push(0, 4);
        }
        due.is("told(8)", x.told(TURNS), 31);
        due.is("told(10)", x.told(LOGGED), 30);
        due.is("log(28, 2)", x.log(28, 2), 660);
        due.is("log(28, 0)", x.log(28, 0), 3);
        due.is("log(29, 2)", x.log(29, 2), 1540);
        due.is("log(30, 2)", x.log(30, 2), NONE);
        due.is("log(27, 0)", x.log(27, 0), 0);
        x.push(0, 4);
        due.is("log(29, 0)", x.log(29, 0), 0);
        due.is("log(29, 1)", x.log(29, 1), 1);
        due.is("told(10) behind more", x.told(LOGGED), 30);
        due.is("told(8) behind more", x.told(TURNS), 35);
    }

    /** The greatest first, of equals the lower magnet, and of its two turns the one with the direction 1. */
    private static void settlingOrder() {
        MagnetChain x = Chains.still("413");
        x.set(DEPTH, 300);
        due.is("turns in a field", x.set(STRENGTH, 11), 8);
        int[] magnets = {2, 2, 0, 0, 0, 0, 1, 2};
        int[] directions = {-1, -1, 1, 1, 1, 1, -1, -1};
        int[] heats = {770, 770, 330, 770, 770, 330, 330, 330};
        for (int k = 0; k < 8; k++) {
            due.is("in 413: magnet of turn " + k, x.log(7 - k, 0), magnets[k]);
            due.is("in 413: direction of turn " + k, x.log(7 - k, 1), directions[k]);
            due.is("in 413: heat of turn " + k, x.log(7 - k, 2), heats[k]);
        }
    }

    private static void points() {
        MagnetChain x = new MagnetChain();
        int[] want = {40, 28, 0, -28, -40, -28, 0, 28};
        for (int side = 0; side < 8; side++) {
            due.is("points(" + side + ")", x.points(side), want[side]);
        }
        due.is("points(-1)", x.points(-1), BAD);
        due.is("points(8)", x.points(8), BAD);
        x = Chains.still("0125");
        due.is("points(0) of 0125", x.points(0), 10 + 7 + 0 - 7);
        due.is("points(3) of 0125", x.points(3), -7 + 0 + 7 + 0);
    }

    private static void mean() {
        MagnetChain x = new MagnetChain();
        due.is("mean()", x.mean(), -1600.0f);
        x.begin(3);
        x.set(COUPLING, 1);
        due.is("mean() of -400 over 3", x.mean(), -400.0f / 3.0f);
        x.begin(1);
        due.is("mean() of 0", x.mean(), 0.0f);
    }

    private static void moved() {
        MagnetChain x = new MagnetChain();
        due.is("moved(0, 0)", x.moved(0, 0), BAD);
        due.is("moved(0, 5)", x.moved(0, 5), BAD);
        due.is("moved(0, -5)", x.moved(0, -5), BAD);
        due.is("moved(4, 1)", x.moved(4, 1), BAD);
        due.is("moved(-1, 1)", x.moved(-1, 1), BAD);
        due.is("moved(0, 4)", x.moved(0, 4), 4);
        due.is("moved(0, -1)", x.moved(0, -1), 1);
        due.is("turns behind moved()", x.told(TURNS), 0);
        due.is("work behind moved()", x.told(WORK), 0);
        due.is("log behind moved()", x.told(LOGGED), 0);
        due.is("pushes behind moved()", x.told(PUSHES), 0);
        due.is("told(15) behind moved()", x.told(UNDOABLE), 0);
        x.hold(0, 1);
        due.is("moved(0, 1) of a held one", x.moved(0, 1), STATE);
        due.is("moved(0, 9) of a held one", x.moved(0, 9), BAD);
        x = Chains.still("07");
        due.is("moved(1, 3)", x.moved(1, 3), 0);
        angles("moved()", x, "07");
    }

    private static void loop() {
        MagnetChain x = new MagnetChain();
        x.begin(1);
        due.is("loop(0, 1, 0)", x.loop(0, 1, 0), BAD);
        due.is("loop(101, 101, 0)", x.loop(101, 101, 0), BAD);
        due.is("loop(10, 0, 0)", x.loop(10, 0, 0), BAD);
        due.is("loop(10, -1, 0)", x.loop(10, -1, 0), BAD);
        due.is("loop(10, 3, 0)", x.loop(10, 3, 0), BAD);
        due.is("loop(10, 20, 0)", x.loop(10, 20, 0), BAD);
        due.is("loop(11, 1, 0)", x.loop(11, 1, 0), BAD);
        due.is("loop(100, 5, 0)", x.loop(100, 5, 0), BAD);
        due.is("loop(10, 1, -1)", x.loop(10, 1, -1), BAD);
        due.is("loop(10, 1, 5)", x.loop(10, 1, 5), BAD);
        due.is("loop(least, -1, 0)", x.loop(LEAST, -1, 0), BAD);
        due.is("loop(100, most, 0)", x.loop(100, MOST, 0), BAD);
        int[] coarse = {-2000, 10, -50, 8, 10};
        int[] fine = {-1200, 10, -20, 8, 10};
        for (int what = 0; what < 5; what++) {
            due.is("loop(100, 50, " + what + ")", x.loop(100, 50, what), coarse[what]);
            due.is("loop(100, 10, " + what + ")", x.loop(100, 10, what), fine[what]);
        }
        int[] small = {0, 10, NONE, 0, 10};
        for (int what = 0; what < 5; what++) {
            due.is("loop(10, 1, " + what + ")", x.loop(10, 1, what), small[what]);
        }
        due.is("angle behind loops", x.magnet(0, 0), 0);
        due.is("strength behind loops", x.told(6), 0);
        due.is("turns behind loops", x.told(TURNS), 0);
        due.is("heat behind loops", x.told(HEAT), 0);
        due.is("told(15) behind loops", x.told(UNDOABLE), 1);
        for (int what = 0; what < 5; what++) {
            due.is("loop(10, 5, " + what + ")", x.loop(10, 5, what), small[what]);
            due.is("loop(1, 1, " + what + ")", x.loop(1, 1, what), small[what]);
        }
        x.set(SIDE, 4);
        due.is("loop(100, 100, 4) to the other side", x.loop(100, 100, 4), 10);
        due.is("loop(100, 100, 3) to the other side", x.loop(100, 100, 3), 12);
        x = Chains.still("2!");
        due.is("loop(100, 10, 2) with 0 points at once", x.loop(100, 10, 2), 90);
        due.is("loop(100, 100, 2) with 0 points at once", x.loop(100, 100, 2), 0);
        due.is("loop(100, 100, 1) with 0 points", x.loop(100, 100, 1), 0);
        x = Chains.still("3!");
        due.is("loop(100, 10, 2) with fewer points at once", x.loop(100, 10, 2), 90);
        due.is("loop(100, 10, 1) with fewer points", x.loop(100, 10, 1), -7);
        due.is("loop(100, 10, 4) with fewer points", x.loop(100, 10, 4), -7);
        x = Chains.still("1!");
        due.is("loop(100, 10, 2) with more points", x.loop(100, 10, 2), NONE);
        due.is("loop(100, 10, 2) with 1 point", Chains.still("1!1!1!4!4!").loop(100, 10, 2), NONE);
        due.is("loop(100, 10, 2) with -1 points", Chains.still("5!5!5!0!0!").loop(100, 10, 2), 90);
    }

    /** The same way, gone by calls of set(): at strength 0 the side can be changed without any turn. */
    private static void loopIsLikeSettingTheField() {
        MagnetChain x = new MagnetChain();
        x.begin(5);
        x.set(DEPTH, 40);
        x.set(SIDE, 2);
        x.set(STRENGTH, 90);
        x.hold(4, 1);
        int turns = x.loop(60, 20, 3);
        int last = x.loop(60, 20, 4);
        int atZero = x.loop(60, 20, 1);
        int before = x.told(TURNS);
        int[] way = {0, 20, 40, 60, 40, 20, 0, -20, -40, -60, -40, -20, 0, 20, 40, 60};
        for (int k = 0; k < way.length; k++) {
            if (way[k] == 0) {
                x.set(STRENGTH, 0);
                due.is("turns by the side alone", x.set(SIDE, k == 6 ? 6 : 2), 0);
                if (k == 6) {
                    due.is("loop(60, 20, 1)", atZero, x.points(2));
                }
            } else {
                x.set(STRENGTH, Math.abs(way[k]));
            }
        }
        due.is("loop(60, 20, 3)", turns, x.told(TURNS) - before);
        due.is("loop(60, 20, 4)", last, x.points(2));
        due.holds("the way has turns", turns > 0);
    }

    private static void solve() {
        MagnetChain x = Chains.still("0");
        due.is("solve(-1, 0)", x.solve(-1, 0), BAD);
        due.is("solve(4, 0)", x.solve(4, 0), BAD);
        due.is("solve(0, -1)", x.solve(0, -1), BAD);
        due.is("solve(0, 3)", x.solve(0, 3), BAD);
        due.is("solve(0, 0) without goals", x.solve(0, 0), 0);
        due.is("solve(3, 1) without goals", x.solve(3, 1), NONE);
        due.is("solve(3, 2) without goals", x.solve(3, 2), NONE);
        int[] pushes = {0, 1, 2, 3, NONE, 3, 2, 1};
        for (int angle = 0; angle < 8; angle++) {
            x.goal(0, angle);
            due.is("solve(3, 0) to " + angle, x.solve(3, 0), pushes[angle]);
            int direction = angle == 0 || angle == 4 ? NONE : angle < 4 ? 1 : -1;
            due.is("solve(3, 2) to " + angle, x.solve(3, 2), direction);
            due.is("solve(3, 1) to " + angle, x.solve(3, 1), direction == NONE ? NONE : 0);
            for (int most = 0; most < 3; most++) {
                due.is("solve(" + most + ", 0) to " + angle, x.solve(most, 0),
                        pushes[angle] > most ? NONE : pushes[angle]);
            }
        }
        x.goal(0, 1);
        x.hold(0, 1);
        due.is("solve(3, 0) with a held one", x.solve(3, 0), NONE);
        x = new MagnetChain();
        x.goal(0, 1);
        due.is("solve(3, 0) where all springs back", x.solve(3, 0), NONE);
        due.is("turns behind solve()", x.told(TURNS), 0);
        due.is("pushes behind solve()", x.told(PUSHES), 0);
        due.is("told(15) behind solve()", x.told(UNDOABLE), 1);
        due.is("angle behind solve()", x.magnet(0, 0), 0);
    }

    private static void solveTakesTheFirstWay() {
        MagnetChain x = Chains.still("000");
        x.goal(1, 1);
        x.goal(2, 7);
        due.is("solve(3, 0)", x.solve(3, 0), 2);
        due.is("solve(3, 1)", x.solve(3, 1), 1);
        due.is("solve(3, 2)", x.solve(3, 2), 1);
        x.goal(1, NONE);
        due.is("solve(1, 0)", x.solve(1, 0), 1);
        due.is("solve(1, 1)", x.solve(1, 1), 2);
        due.is("solve(1, 2)", x.solve(1, 2), -1);
        // A push by one detent falls on to the third side: either direction needs one more push to the fourth.
        x = Chains.still("0");
        x.set(DEPTH, 300);
        x.set(SIDE, 4);
        x.set(STRENGTH, 10);
        x.goal(0, 4);
        due.is("solve(3, 0) by falling", x.solve(3, 0), 2);
        due.is("solve(3, 1) by falling", x.solve(3, 1), 0);
        due.is("solve(3, 2) by falling", x.solve(3, 2), 1);
        x.goal(0, 5);
        due.is("solve(3, 0) by one fall", x.solve(3, 0), 1);
        due.is("solve(3, 2) by one fall", x.solve(3, 2), -1);
        x.push(0, 1);
        angles("the fall", x, "3");
    }

    private static void write() {
        MagnetChain x = new MagnetChain();
        due.is("write(31)", x.write(31), BAD);
        due.is("write(127)", x.write(127), BAD);
        due.is("write(-1)", x.write(-1), BAD);
        due.is("write(304)", x.write(304), BAD);
        due.is("write(32)", x.write(32), 1);
        due.is("write(126)", x.write(126), 2);
        for (int k = 3; k <= 40; k++) {
            due.is("write(48)", x.write(48), k);
        }
        due.is("write(48) to 40 bytes", x.write(48), FULL);
        due.is("write(31) to 40 bytes", x.write(31), BAD);
        due.is("told(14)", x.told(LENGTH), 40);
        due.is("told(15)", x.told(UNDOABLE), 0);
        x.load();
        due.is("fault(1): the second byte", x.fault(1), 1);
    }

    private static void wipe() {
        MagnetChain x = new MagnetChain();
        due.is("wipe() of nothing", x.wipe(), 0);
        Chains.type(x, "12 3");
        due.is("wipe()", x.wipe(), 4);
        due.is("told(14)", x.told(LENGTH), 0);
        due.is("wipe() again", x.wipe(), 0);
        due.is("told(15)", x.told(UNDOABLE), 0);
        Chains.type(x, "5");
        due.is("load() behind wipe()", x.load(), 1);
    }

    private static void load() {
        MagnetChain x = new MagnetChain();
        x.set(COUPLING, 1);
        x.set(DEPTH, 2000);
        x.push(1, 1);
        x.goal(0, 3);
        x.hold(3, 1);
        Chains.type(x, "  7!6 5!  01 ");
        due.is("load()", x.load(), 5);
        angles("load()", x, "76501");
        int[] held = {1, 0, 1, 0, 0};
        for (int i = 0; i < 5; i++) {
            due.is("held " + i, x.magnet(i, 1), held[i]);
            due.is("goal " + i, x.magnet(i, 2), NONE);
        }
        due.is("told(14)", x.told(LENGTH), 13);
        due.is("told(9)", x.told(PUSHES), 1);
        due.is("told(15)", x.told(UNDOABLE), 6);
        // U(7, 6) = 70, U(6, 5) = 70, U(5, 0) = 140, U(0, 1) = -140
        due.is("energy", x.told(ENERGY), 140);
        due.is("work", x.told(WORK), 140 + 6400);
        Chains.type(x, "0!1!2!3!4!5!6!7!0!1!                    ");
        due.is("load() of 40 bytes", x.load(), 10);
        due.is("told(13)", x.told(HELD), 10);
        x = new MagnetChain();
        Chains.type(x, "04");
        due.is("load() that settles", x.load(), 2);
        due.is("its turns", x.told(TURNS), 4);
        due.is("its heat", x.told(HEAT), 4000);
    }

    private static void loadFaults() {
        String[] texts = {"", " ", "     ", "x", "8", "9", "/", "!", " !", "0 !", "0!!", "0!0x", "0000000000 0",
            "00000000000", "0000000000!0!", "0000000000x0", "12\"", "0~", "1!1! 1!1! 1!1! 1!1! 1!1! 1"};
        int[] kinds = {3, 3, 3, 1, 1, 1, 1, 1, 1, 1, 1, 1, 2, 2, 2, 1, 1, 1, 2};
        int[] places = {0, 1, 5, 0, 0, 0, 0, 0, 1, 2, 2, 3, 11, 10, 11, 10, 2, 1, 25};
        for (int k = 0; k < texts.length; k++) {
            MagnetChain x = new MagnetChain();
            Chains.type(x, texts[k]);
            due.is("load() of \"" + texts[k] + "\"", x.load(), STATE);
            due.is("fault(0) of \"" + texts[k] + "\"", x.fault(0), kinds[k]);
            due.is("fault(1) of \"" + texts[k] + "\"", x.fault(1), places[k]);
            due.is("told(15) behind it", x.told(UNDOABLE), 0);
            angles("a fault", x, "0000");
        }
    }

    private static void fault() {
        MagnetChain x = new MagnetChain();
        due.is("fault(-1)", x.fault(-1), BAD);
        due.is("fault(2)", x.fault(2), BAD);
        Chains.type(x, "1");
        x.load();
        due.is("fault(0) behind a good load()", x.fault(0), NONE);
        Chains.type(x, "11x");
        x.load();
        due.is("fault(0)", x.fault(0), 1);
        due.is("fault(1)", x.fault(1), 2);
        due.is("fault(2) with a fault", x.fault(2), BAD);
        Chains.type(x, "1");
        x.load();
        x.begin(3);
        due.is("fault(0) behind another load()", x.fault(0), 1);
        due.is("fault(1) behind another load()", x.fault(1), 2);
        x.wipe();
        x.load();
        due.is("fault(0) of nothing", x.fault(0), 3);
        due.is("fault(1) of nothing", x.fault(1), 0);
    }

    private static void keep() {
        MagnetChain x = new MagnetChain();
        due.is("keep(-1)", x.keep(-1), BAD);
        due.is("keep(2)", x.keep(2), BAD);
        due.is("keep(0)", x.keep(0), 4);
        due.is("told(15) behind keep()", x.told(UNDOABLE), 0);
        due.is("back(1)", x.back(1), STATE);
        x.begin(7);
        due.is("keep(1)", x.keep(1), 7);
        due.is("back(0)", x.back(0), 4);
        due.is("keep(1) again", x.keep(1), 4);
        x.begin(2);
        due.is("back(1)", x.back(1), 4);
    }

    private static void back() {
        MagnetChain x = new MagnetChain();
        due.is("back(-1)", x.back(-1), BAD);
        due.is("back(2)", x.back(2), BAD);
        due.is("back(0)", x.back(0), STATE);
        x.push(0, 2);
        x.set(SIDE, 5);
        x.hold(1, 1);
        x.goal(2, 6);
        x.keep(0);
        Chains.type(x, "77");
        x.set(DEPTH, 2000);
        x.load();
        x.push(1, 1);
        due.is("told(15)", x.told(UNDOABLE), 7);
        due.is("back(0)", x.back(0), 4);
        int[] want = {4, -6400, 2200, 2200, 10, 300, 0, 5, 2, 1, 2, 0, 1, 1, 2, 8};
        for (int what = 0; what < want.length; what++) {
            due.is("told(" + what + ") behind back(0)", x.told(what), want[what]);
        }
        due.is("held behind back(0)", x.magnet(1, 1), 1);
        due.is("goal behind back(0)", x.magnet(2, 2), 6);
        due.is("log(0, 2) behind back(0)", x.log(0, 2), 660);
        due.is("log(2, 2) behind back(0)", x.log(2, 2), NONE);
        due.is("undo() of back(0)", x.undo(), 7);
        angles("undo() of back(0)", x, "70");
        due.is("back(0) again", x.back(0), 4);
        x.goal(0, 1);
        due.is("back(0) a third time", x.back(0), 4);
        due.is("goal of the image", x.magnet(0, 2), NONE);
        x = new MagnetChain();
        x.push(3, -2);
        x.keep(1);
        x.begin(4);
        x.push(1, 1);
        x.push(2, 3);
        x.back(1);
        logIsOfTwoTurns("back(1)", x);
        x.begin(3);
        x.push(1, 3);
        x.back(1);
        logIsOfTwoTurns("back(1) again", x);
    }

    private static void wrongCallsChangeNothing() {
        MagnetChain x = new MagnetChain();
        x.push(1, 3);
        x.hold(0, 1);
        int[] before = new int[16];
        for (int what = 0; what < 16; what++) {
            before[what] = x.told(what);
        }
        x.begin(-3);
        x.insert(9, 0);
        x.remove(9);
        x.hold(0, 7);
        x.push(0, 1);
        x.set(1, 2001);
        x.goal(1, 9);
        x.write(5);
        x.load();
        x.keep(5);
        x.back(1);
        x.moved(0, 1);
        x.loop(3, 2, 0);
        x.solve(9, 0);
        for (int what = 0; what < 16; what++) {
            due.is("told(" + what + ") behind wrong calls", x.told(what), before[what]);
        }
    }

    /** With ten magnets every row is full. */
    private static void fullChain() {
        MagnetChain x = Chains.still("0!1!2!3!4!5!6!7!0!1!");
        due.is("told(13) of ten", x.told(HELD), 10);
        due.is("told(11) of ten", x.told(WALLS), 9);
        due.is("told(12) of ten", x.told(MISSED), 0);
        due.is("points(0) of ten", x.points(0), 17);
        due.is("solve(3, 0) of ten", x.solve(3, 0), 0);
        x.goal(9, 2);
        due.is("solve(2, 0) of ten held ones", x.solve(2, 0), NONE);
        x.hold(9, 0);
        due.is("solve(2, 0) of ten", x.solve(2, 0), 1);
        due.is("solve(2, 1) of ten", x.solve(2, 1), 9);
        due.is("solve(2, 2) of ten", x.solve(2, 2), 1);
        x.goal(9, 7);
        due.is("solve(3, 0) of ten", x.solve(3, 0), 2);
        due.is("solve(3, 1) of ten", x.solve(3, 1), 9);
        due.is("solve(3, 2) of ten", x.solve(3, 2), -1);
        x.goal(9, 5);
        due.is("solve(3, 0) too far", x.solve(3, 0), NONE);
        due.is("loop(20, 10, 3) of ten", x.loop(20, 10, 3), 0);
        due.is("moved(9, 4) of ten", x.moved(9, 4), 0);
        due.is("push(9, 4) of ten", x.push(9, 4), 0);
        due.is("told(12) behind it", x.told(MISSED), 0);
        due.is("shed() of ten without coupling", x.shed(), 0);
        due.is("reverse() of ten", x.reverse(), 10);
        angles("reverse() of ten", x, "7456701234");
        due.is("its goal", x.magnet(0, 2), 7);
        due.is("remove(9) of ten", x.remove(9), 4);
        angles("remove(9)", x, "745670123");
        due.is("insert(0, 3)", x.insert(0, 3), 10);
        due.is("remove(0) of ten", x.remove(0), 3);
        angles("remove(0)", x, "745670123");
        due.is("insert(9, 3)", x.insert(9, 3), 10);
        angles("insert(9, 3)", x, "7456701233");
        due.is("keep(0) of ten", x.keep(0), 10);
        due.is("begin(1)", x.begin(1), 10);
        due.is("back(0)", x.back(0), 10);
        angles("back(0)", x, "7456701233");
    }
}
