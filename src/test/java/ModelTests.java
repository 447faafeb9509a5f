/** Long runs of calls, each asked of MagnetChain and of the model, whose answers are due. */
public final class ModelTests {
    private static final int NONE = -1000000009;
    private static final int CALLS = 512;

    private final Due due = new Due();
    private long seed;
    private MagnetChain chain;
    private Model model;
    private String said;

    public static void main(String[] args) {
        ModelTests tests = new ModelTests();
        for (int run = 1; run <= 400 && tests.due.wrong() < 20; run++) {
            tests.run(run);
        }
        tests.due.end("ModelTests");
    }

    /** Only some runs ask solve() for three pushes: the model tries every way. */
    private void run(int run) {
        seed = run * 7919L;
        chain = new MagnetChain();
        model = new Model();
        int shy = run % 4;
        int calls = 0;
        while (calls < CALLS && due.wrong() < 20) {
            int method = below(100);
            if (method < 3 && calls + 120 < CALLS) {
                calls += compareAll(run);
            } else {
                step(run, method, shy);
                calls++;
            }
        }
    }

    /** A row of the same numbers for the same seed, on every machine. */
    private int below(int bound) {
        seed = seed * 6364136223846793005L + 1442695040888963407L;
        return (int) ((seed >>> 33) % bound);
    }

    /** Mostly a number of the range or just beside it, now and then one far out. */
    private int number(int least, int most) {
        int far = below(60);
        if (far == 0) {
            return Integer.MIN_VALUE;
        }
        if (far == 1) {
            return Integer.MAX_VALUE;
        }
        if (far == 2) {
            return NONE;
        }
        if (far < 6) {
            return least - 1 + below(most - least + 3);
        }
        return least + below(most - least + 1);
    }

    private int magnet() {
        return below(20) == 0 ? number(0, 10) : below(Math.max(1, model.told(0)));
    }

    private void compare(int run, String call, int got, int want) {
        due.is("run " + run + ": " + call, got, want);
    }

    private void step(int run, int method, int shy) {
        int got;
        int want;
        if (method < 40) {
            int[] pair = change(method, shy);
            got = pair[0];
            want = pair[1];
        } else if (method < 70) {
            int[] pair = ask(method, shy);
            got = pair[0];
            want = pair[1];
        } else {
            int[] pair = other(method);
            got = pair[0];
            want = pair[1];
        }
        compare(run, said, got, want);
    }

    private int[] change(int method, int shy) {
        int i = magnet();
        if (method < 2) {
            int n = shy == 0 ? number(1, 4) : number(1, 10);
            said = "begin(" + n + ")";
            return new int[] {chain.begin(n), model.begin(n)};
        }
        if (method < 8) {
            int place = number(0, model.told(0));
            int angle = number(0, 7);
            said = "insert(" + place + ", " + angle + ")";
            return new int[] {chain.insert(place, angle), model.insert(place, angle)};
        }
        if (method < 11) {
            said = "remove(" + i + ")";
            return new int[] {chain.remove(i), model.remove(i)};
        }
        if (method < 13) {
            said = "shed()";
            return new int[] {chain.shed(), model.shed()};
        }
        if (method < 15) {
            said = "reverse()";
            return new int[] {chain.reverse(), model.reverse()};
        }
        if (method < 18) {
            int on = number(0, 1);
            said = "hold(" + i + ", " + on + ")";
            return new int[] {chain.hold(i, on), model.hold(i, on)};
        }
        if (method < 27) {
            int by = number(-4, 4);
            said = "push(" + i + ", " + by + ")";
            return new int[] {chain.push(i, by), model.push(i, by)};
        }
        if (method < 34) {
            return set();
        }
        int angle = below(3) == 0 ? NONE : number(0, 7);
        said = "goal(" + i + ", " + angle + ")";
        return new int[] {chain.goal(i, angle), model.goal(i, angle)};
    }

    private int[] set() {
        int what = number(0, 3);
        int most = what == 0 ? 20 : what == 1 ? (below(2) == 0 ? 100 : 2000) : what == 2 ? 100 : 7;
        int value = number(0, most);
        if (what == 0 && below(2) == 0) {
            value = below(4);
        }
        said = "set(" + what + ", " + value + ")";
        return new int[] {chain.set(what, value), model.set(what, value)};
    }

    private int[] ask(int method, int shy) {
        int i = magnet();
        if (method < 44) {
            int by = number(-4, 4);
            said = "moved(" + i + ", " + by + ")";
            return new int[] {chain.moved(i, by), model.moved(i, by)};
        }
        if (method < 49) {
            return loop();
        }
        if (method < 52) {
            int most = number(0, model.told(0) <= 4 ? 3 : 2);
            if (shy == 1 && below(20) == 0) {
                most = 3;
            }
            if (most == 3 && model.told(0) > 4 && below(4) > 0) {
                most = 1;
            }
            int what = number(0, 2);
            said = "solve(" + most + ", " + what + ")";
            return new int[] {chain.solve(most, what), model.solve(most, what)};
        }
        if (method < 55) {
            int what = number(0, 15);
            said = "told(" + what + ")";
            return new int[] {chain.told(what), model.told(what)};
        }
        if (method < 60) {
            int what = number(0, 5);
            said = "magnet(" + i + ", " + what + ")";
            return new int[] {chain.magnet(i, what), model.magnet(i, what)};
        }
        if (method < 65) {
            int k = number(0, 29);
            int what = number(0, 2);
            said = "log(" + k + ", " + what + ")";
            return new int[] {chain.log(k, what), model.log(k, what)};
        }
        if (method < 68) {
            int side = number(0, 7);
            said = "points(" + side + ")";
            return new int[] {chain.points(side), model.points(side)};
        }
        said = "mean() in bits";
        return new int[] {Float.floatToIntBits(chain.mean()), Float.floatToIntBits(model.mean())};
    }

    private int[] loop() {
        int steps = 1 + below(10);
        int step = number(1, 100 / steps);
        int most = below(8) == 0 ? number(1, 100) : step * steps;
        int what = number(0, 4);
        said = "loop(" + most + ", " + step + ", " + what + ")";
        return new int[] {chain.loop(most, step, what), model.loop(most, step, what)};
    }

    private int[] other(int method) {
        if (method < 72) {
            said = "undo()";
            return new int[] {chain.undo(), model.undo()};
        }
        if (method < 88) {
            int code = code();
            said = "write(" + code + ")";
            return new int[] {chain.write(code), model.write(code)};
        }
        if (method < 89) {
            said = "wipe()";
            return new int[] {chain.wipe(), model.wipe()};
        }
        if (method < 92) {
            said = "load()";
            return new int[] {chain.load(), model.load()};
        }
        if (method < 95) {
            int what = number(0, 1);
            said = "fault(" + what + ")";
            return new int[] {chain.fault(what), model.fault(what)};
        }
        int i = number(0, 1);
        if (method < 97) {
            said = "keep(" + i + ")";
            return new int[] {chain.keep(i), model.keep(i)};
        }
        said = "back(" + i + ")";
        return new int[] {chain.back(i), model.back(i)};
    }

    private int code() {
        int kind = below(30);
        if (kind < 16) {
            return '0' + below(8);
        }
        if (kind < 24) {
            return ' ';
        }
        return kind < 29 ? '!' : number(32, 126);
    }

    /** Asks for all that the calls tell of the state; answers how many calls that took. */
    private int compareAll(int run) {
        int calls = 0;
        for (int what = 0; what <= 15; what++) {
            compare(run, "told(" + what + ")", chain.told(what), model.told(what));
            calls++;
        }
        for (int i = 0; i < model.told(0); i++) {
            for (int what = 0; what <= 5; what++) {
                compare(run, "magnet(" + i + ", " + what + ")", chain.magnet(i, what), model.magnet(i, what));
                calls++;
            }
        }
        for (int k = 0; k <= 31; k += 1 + below(4)) {
            int what = below(3);
            compare(run, "log(" + k + ", " + what + ")", chain.log(k, what), model.log(k, what));
            calls++;
        }
        return calls;
    }
}
