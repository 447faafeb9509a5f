import java.util.function.Supplier;

/**
 * The range of each argument: at both ends the last value that is in it and the first that is out of it, all
 * between them, some beyond, and values far out. What is out of it is BAD, whatever else might be told.
 */
public final class RangeTests {
    private static final int BAD = -1000000001, STATE = -1000000002, FULL = -1000000003, NONE = -1000000009;
    private static final int[] FAR = {Integer.MIN_VALUE, Integer.MIN_VALUE + 1, Integer.MAX_VALUE,
        Integer.MAX_VALUE - 1, BAD, STATE, FULL, NONE, NONE - 1, NONE + 1, -1, -2, -256, 256, 65536, -65536, 1 << 30};

    private static final Due due = new Due();

    private interface Call {
        int on(MagnetChain x, int argument);
    }

    public static void main(String[] args) {
        for (int n : new int[] {1, 2, 4, 9, 10}) {
            rangesWithMagnets(n);
        }
        rangesOfChanges();
        rangesOfWhat();
        rangesOfTheText();
        rangesOfImages();
        rangesOfLoop();
        rangesOfSolve();
        noZeroPush();
        due.end("RangeTests");
    }

    private static Supplier<MagnetChain> magnets(int n) {
        return () -> {
            MagnetChain x = new MagnetChain();
            x.begin(n);
            return x;
        };
    }

    private static boolean isIn(int value, int least, int most) {
        return value >= least && value <= most;
    }

    private static void one(String name, Supplier<MagnetChain> made, Call call, int value, boolean isTaken) {
        int got = call.on(made.get(), value);
        due.holds(name + " with " + value + " is " + (isTaken ? "taken" : "BAD") + ", answered " + got,
                (got != BAD) == isTaken);
    }

    private static void range(String name, Supplier<MagnetChain> made, Call call, int least, int most) {
        for (int value = least - 3; value <= most + 3; value++) {
            one(name, made, call, value, isIn(value, least, most));
        }
        for (int value : FAR) {
            one(name, made, call, value, isIn(value, least, most));
        }
        one(name, made, call, least + 256, isIn(least + 256, least, most));
        one(name, made, call, most - 256, isIn(most - 256, least, most));
    }

    /** The numbers of magnets end with N - 1, the places to put one in with N. */
    private static void rangesWithMagnets(int n) {
        Supplier<MagnetChain> made = magnets(n);
        String of = " of " + n;
        range("begin(n)" + of, made, (x, n2) -> x.begin(n2), 1, 10);
        range("insert(place, 0)" + of, made, (x, place) -> x.insert(place, 0), 0, n);
        range("insert(0, angle)" + of, made, (x, angle) -> x.insert(0, angle), 0, 7);
        range("insert(n, angle)" + of, made, (x, angle) -> x.insert(n, angle), 0, 7);
        range("remove(i)" + of, made, (x, i) -> x.remove(i), 0, n - 1);
        range("hold(i, 1)" + of, made, (x, i) -> x.hold(i, 1), 0, n - 1);
        range("hold(last, on)" + of, made, (x, on) -> x.hold(n - 1, on), 0, 1);
        range("push(i, 1)" + of, made, (x, i) -> x.push(i, 1), 0, n - 1);
        range("goal(i, 0)" + of, made, (x, i) -> x.goal(i, 0), 0, n - 1);
        range("goal(i, NONE)" + of, made, (x, i) -> x.goal(i, NONE), 0, n - 1);
        for (int what = 0; what <= 5; what++) {
            int asked = what;
            range("magnet(i, " + what + ")" + of, made, (x, i) -> x.magnet(i, asked), 0, n - 1);
        }
        range("magnet(last, what)" + of, made, (x, what) -> x.magnet(n - 1, what), 0, 5);
        range("moved(i, 1)" + of, made, (x, i) -> x.moved(i, 1), 0, n - 1);
        for (int wrong : new int[] {-1, n}) {
            due.is("magnet(" + wrong + ", 9)" + of, made.get().magnet(wrong, 9), BAD);
            due.is("hold(" + wrong + ", 2)" + of, made.get().hold(wrong, 2), BAD);
            due.is("push(" + wrong + ", 0)" + of, made.get().push(wrong, 0), BAD);
            due.is("goal(" + wrong + ", 8)" + of, made.get().goal(wrong, 8), BAD);
            due.is("moved(" + wrong + ", 5)" + of, made.get().moved(wrong, 5), BAD);
        }
    }

    private static void rangesOfChanges() {
        Supplier<MagnetChain> made = MagnetChain::new;
        range("set(what, 0)", made, (x, what) -> x.set(what, 0), 0, 3);
        int[] most = {20, 2000, 100, 7};
        for (int what = 0; what <= 3; what++) {
            int changed = what;
            range("set(" + what + ", value)", made, (x, value) -> x.set(changed, value), 0, most[what]);
        }
        range("set(4, value)", made, (x, value) -> x.set(4, value) == BAD ? BAD : 0, 1, 0);
        range("set(-1, value)", made, (x, value) -> x.set(-1, value) == BAD ? BAD : 0, 1, 0);
        range("points(side)", made, (x, side) -> x.points(side), 0, 7);
        for (int angle = -3; angle <= 10; angle++) {
            one("goal(3, angle)", made, (x, value) -> x.goal(3, value), angle, isIn(angle, 0, 7));
        }
        for (int far : FAR) {
            one("goal(3, angle)", made, (x, value) -> x.goal(3, value), far, far == NONE);
        }
    }

    private static void rangesOfWhat() {
        Supplier<MagnetChain> empty = MagnetChain::new;
        Supplier<MagnetChain> turned = () -> {
            MagnetChain x = new MagnetChain();
            x.push(0, 1);
            return x;
        };
        range("told(what)", empty, (x, what) -> x.told(what), 0, 15);
        range("log(0, what) of none", empty, (x, what) -> x.log(0, what), 0, 2);
        range("log(most, what) of none", empty, (x, what) -> x.log(Integer.MAX_VALUE, what), 0, 2);
        range("log(0, what)", turned, (x, what) -> x.log(0, what), 0, 2);
        for (int what = 0; what <= 2; what++) {
            int asked = what;
            for (int k = -3; k <= 33; k++) {
                one("log(k, " + what + ") of none", empty, (x, turn) -> x.log(turn, asked), k, k >= 0);
                one("log(k, " + what + ")", turned, (x, turn) -> x.log(turn, asked), k, k >= 0);
            }
            for (int far : FAR) {
                one("log(k, " + what + ") of none", empty, (x, turn) -> x.log(turn, asked), far, far >= 0);
                one("log(k, " + what + ")", turned, (x, turn) -> x.log(turn, asked), far, far >= 0);
            }
        }
        due.is("log(-1, -1)", turned.get().log(-1, -1), BAD);
    }

    private static void rangesOfTheText() {
        Supplier<MagnetChain> empty = MagnetChain::new;
        Supplier<MagnetChain> full = () -> {
            MagnetChain x = new MagnetChain();
            Chains.type(x, "                                        ");
            return x;
        };
        Supplier<MagnetChain> faulty = () -> {
            MagnetChain x = new MagnetChain();
            x.load();
            return x;
        };
        range("write(code)", empty, (x, code) -> x.write(code), 32, 126);
        range("write(code) to 40 bytes", full, (x, code) -> x.write(code), 32, 126);
        range("fault(what) without one", empty, (x, what) -> x.fault(what), 0, 1);
        range("fault(what)", faulty, (x, what) -> x.fault(what), 0, 1);
    }

    private static void rangesOfImages() {
        Supplier<MagnetChain> empty = MagnetChain::new;
        Supplier<MagnetChain> kept = () -> {
            MagnetChain x = new MagnetChain();
            x.keep(0);
            x.keep(1);
            return x;
        };
        range("keep(i)", empty, (x, i) -> x.keep(i), 0, 1);
        range("keep(i) again", kept, (x, i) -> x.keep(i), 0, 1);
        range("back(i) to nothing", empty, (x, i) -> x.back(i), 0, 1);
        range("back(i)", kept, (x, i) -> x.back(i), 0, 1);
    }

    /** All pairs of most and step: each in its range, most a multiple of step, step at least a tenth of most. */
    private static void rangesOfLoop() {
        for (int most = -2; most <= 103; most++) {
            MagnetChain x = Chains.still("1!");
            for (int step = -2; step <= 103; step++) {
                boolean isTaken = isIn(most, 1, 100) && isIn(step, 1, 100) && step * 10 >= most && most % step == 0;
                due.is("loop(" + most + ", " + step + ", 4)", x.loop(most, step, 4), isTaken ? 7 : BAD);
            }
        }
        Supplier<MagnetChain> made = MagnetChain::new;
        range("loop(most, 1, 4)", made, (x, most) -> x.loop(most, 1, 4), 1, 10);
        range("loop(100, 100, what)", made, (x, what) -> x.loop(100, 100, what), 0, 4);
        range("loop(1, 1, what)", made, (x, what) -> x.loop(1, 1, what), 0, 4);
        range("loop(3, 2, what)", made, (x, what) -> x.loop(3, 2, what) == BAD ? BAD : 0, 1, 0);
        for (int far : FAR) {
            due.is("loop(" + far + ", 10, 0)", made.get().loop(far, 10, 0), BAD);
            due.is("loop(100, " + far + ", 0)", made.get().loop(100, far, 0), BAD);
            due.is("loop(" + far + ", " + far + ", 0)", made.get().loop(far, far, 0), BAD);
            due.is("loop(0, " + far + ", 0)", made.get().loop(0, far, 0), BAD);
        }
    }

    private static void rangesOfSolve() {
        Supplier<MagnetChain> solved = MagnetChain::new;
        Supplier<MagnetChain> never = () -> {
            MagnetChain x = new MagnetChain();
            x.goal(0, 4);
            x.hold(0, 1);
            return x;
        };
        for (int what = 0; what <= 2; what++) {
            int asked = what;
            range("solve(most, " + what + ")", solved, (x, most) -> x.solve(most, asked), 0, 3);
            range("solve(most, " + what + ") of none", never, (x, most) -> x.solve(most, asked), 0, 3);
        }
        for (int most = 0; most <= 3; most++) {
            int tried = most;
            range("solve(" + most + ", what)", solved, (x, what) -> x.solve(tried, what), 0, 2);
            range("solve(" + most + ", what) of none", never, (x, what) -> x.solve(tried, what), 0, 2);
        }
        due.is("solve(4, 3)", solved.get().solve(4, 3), BAD);
        due.is("solve(-1, -1)", solved.get().solve(-1, -1), BAD);
    }

    private static void noZeroPush() {
        for (int by = -7; by <= 7; by++) {
            boolean isTaken = by != 0 && isIn(by, -4, 4);
            one("push(0, by)", MagnetChain::new, (x, value) -> x.push(0, value), by, isTaken);
            one("moved(0, by)", MagnetChain::new, (x, value) -> x.moved(0, value), by, isTaken);
            one("push(9, by) of ten", magnets(10), (x, value) -> x.push(9, value), by, isTaken);
            one("moved(9, by) of ten", magnets(10), (x, value) -> x.moved(9, value), by, isTaken);
        }
        for (int far : FAR) {
            one("push(0, by)", MagnetChain::new, (x, value) -> x.push(0, value), far, isIn(far, -4, -1));
            one("moved(0, by)", MagnetChain::new, (x, value) -> x.moved(0, value), far, isIn(far, -4, -1));
        }
    }
}
