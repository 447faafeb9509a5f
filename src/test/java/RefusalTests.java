import java.util.ArrayList;
import java.util.List;
import java.util.function.Supplier;
import java.util.function.ToIntFunction;

/**
 * A call that is refused (BAD, STATE, FULL) answers with the first of the codes that apply, and changes nothing:
 * of two chains made alike one gets the refused call, and both must tell the same behind it, now and behind
 * load(), back() and undo(). The same is asked for calls that tell only, whose what-ifs happen in copies.
 */
public final class RefusalTests {
    private static final int BAD = -1000000001, STATE = -1000000002, FULL = -1000000003, NONE = -1000000009;

    private static final Due due = new Due();

    public static void main(String[] args) {
        startsAreAsSaid();
        tellingSeesChanges();
        badCalls("new", MagnetChain::new);
        badCalls("rich", RefusalTests::rich);
        badCalls("full", RefusalTests::full);
        badCalls("one", RefusalTests::one);
        notPossibleOnNew();
        notPossibleWithHeldOnes();
        notPossibleWithOne();
        nothingLeftToShed();
        full("full", RefusalTests::full);
        faultsChangeTheFaultAlone();
        badBeforeState();
        badBeforeFull();
        errorsBeforeNone();
        tellingChangesNothing("new", MagnetChain::new);
        tellingChangesNothing("rich", RefusalTests::rich);
        tellingChangesNothing("full", RefusalTests::full);
        due.end("RefusalTests");
    }

    /** Five magnets with all that a state can have, a text, a fault and one image. */
    private static MagnetChain rich() {
        MagnetChain x = new MagnetChain();
        x.load();
        x.set(0, 3);
        x.set(3, 6);
        x.insert(2, 3);
        x.goal(0, 7);
        x.hold(3, 1);
        x.set(2, 49);
        x.keep(0);
        x.push(4, -3);
        Chains.type(x, "27!1");
        return x;
    }

    /** Ten magnets, a text of 40 bytes, eight changes to undo, thirty turns in the log, and both images. */
    private static MagnetChain full() {
        MagnetChain x = rich();
        x.begin(10);
        x.keep(1);
        x.set(1, 0);
        x.set(3, 2);
        x.set(2, 100);
        x.hold(5, 1);
        x.goal(9, 3);
        x.push(6, 4);
        x.set(3, 6);
        Chains.type(x, "0!1!2!3!4!5!6!7!0!1!                    ");
        return x;
    }

    /** What the names of these chains promise, so that a refused call finds something that it could change. */
    private static void startsAreAsSaid() {
        MagnetChain x = rich();
        due.is("magnets of rich", Chains.magnets(x), "6660!6");
        due.is("goals of rich", Chains.goals(x), "7----");
        due.holds("rich has turned", x.told(10) > 0 && x.told(10) < 30);
        due.is("told(14) of rich", x.told(14), 4);
        due.is("told(15) of rich", x.told(15), 7);
        due.is("fault(0) of rich", x.fault(0), 3);
        x = full();
        due.is("magnets of full", Chains.magnets(x), "666662!6666");
        due.is("goals of full", Chains.goals(x), "---------3");
        due.is("told(10) of full", x.told(10), 30);
        due.is("told(14) of full", x.told(14), 40);
        due.is("told(15) of full", x.told(15), 8);
    }

    private static MagnetChain one() {
        MagnetChain x = Chains.still("6");
        x.goal(0, 6);
        x.keep(1);
        return x;
    }

    // ---- all that can be told

    private static void tellNumbers(List<Integer> told, MagnetChain x) {
        for (int what = 0; what <= 15; what++) {
            told.add(x.told(what));
        }
    }

    private static void tellMagnets(List<Integer> told, MagnetChain x) {
        for (int i = 0; i < x.told(0); i++) {
            for (int what = 0; what <= 5; what++) {
                told.add(x.magnet(i, what));
            }
        }
    }

    private static void tellLog(List<Integer> told, MagnetChain x) {
        for (int k = 0; k <= x.told(10); k++) {
            for (int what = 0; what <= 2; what++) {
                told.add(x.log(k, what));
            }
        }
    }

    private static void tellSums(List<Integer> told, MagnetChain x) {
        for (int side = 0; side <= 7; side++) {
            told.add(x.points(side));
        }
        told.add(Float.floatToIntBits(x.mean()));
        told.add(x.moved(0, 3));
        told.add(x.moved(0, -1));
        for (int what = 0; what <= 4; what++) {
            told.add(x.loop(100, 20, what));
        }
        for (int what = 0; what <= 2; what++) {
            told.add(x.solve(1, what));
        }
    }

    /** The text is told by what it reads as, the images by what comes back, the history by undoing all. */
    private static void tellWhatIsHidden(List<Integer> told, MagnetChain x) {
        told.add(x.undo());
        tellNumbers(told, x);
        told.add(x.load());
        told.add(x.fault(0));
        told.add(x.fault(1));
        tellNumbers(told, x);
        for (int i = 0; i <= 1; i++) {
            told.add(x.back(i));
            tellNumbers(told, x);
        }
        for (int k = 0; k <= 8; k++) {
            told.add(x.undo());
            for (int what = 0; what <= 9; what++) {
                told.add(x.told(what));
            }
        }
    }

    private static String tell(MagnetChain x, boolean isFaultTold) {
        List<Integer> told = new ArrayList<>();
        tellNumbers(told, x);
        tellMagnets(told, x);
        tellLog(told, x);
        tellSums(told, x);
        if (isFaultTold) {
            told.add(x.fault(0));
            told.add(x.fault(1));
        }
        tellWhatIsHidden(told, x);
        return told.toString();
    }

    // ---- the two chains made alike

    private static void same(String call, Supplier<MagnetChain> made, ToIntFunction<MagnetChain> asked, int want) {
        MagnetChain x = made.get();
        due.is(call, asked.applyAsInt(x), want);
        due.is("what is told behind " + call, tell(x, true), tell(made.get(), true));
    }

    private static void tellingSeesChanges() {
        String before = tell(rich(), true);
        List<ToIntFunction<MagnetChain>> changes = List.of(x -> x.begin(5), x -> x.insert(0, 0), x -> x.remove(0),
                x -> x.shed(), x -> x.reverse(), x -> x.hold(0, 0), x -> x.push(0, 1), x -> x.set(0, 3),
                x -> x.goal(0, 7), x -> x.undo(), x -> x.write(48), x -> x.wipe(), x -> x.load(), x -> x.keep(0),
                x -> x.keep(1), x -> x.back(0));
        for (int k = 0; k < changes.size(); k++) {
            MagnetChain x = rich();
            changes.get(k).applyAsInt(x);
            due.holds("change " + k + " is seen", !tell(x, true).equals(before));
        }
    }

    // ---- BAD

    private static void badCalls(String name, Supplier<MagnetChain> made) {
        int n = made.get().told(0);
        bad(name + ": begin(0)", made, x -> x.begin(0));
        bad(name + ": begin(11)", made, x -> x.begin(11));
        bad(name + ": insert(-1, 0)", made, x -> x.insert(-1, 0));
        bad(name + ": insert(N + 1, 0)", made, x -> x.insert(n + 1, 0));
        bad(name + ": insert(0, -1)", made, x -> x.insert(0, -1));
        bad(name + ": insert(0, 8)", made, x -> x.insert(0, 8));
        badMagnets(name, made, -1);
        badMagnets(name, made, n);
        bad(name + ": hold(0, -1)", made, x -> x.hold(0, -1));
        bad(name + ": hold(0, 2)", made, x -> x.hold(0, 2));
        bad(name + ": push(0, 0)", made, x -> x.push(0, 0));
        bad(name + ": push(0, -5)", made, x -> x.push(0, -5));
        bad(name + ": push(0, 5)", made, x -> x.push(0, 5));
        int[] most = {20, 2000, 100, 7};
        for (int what = 0; what <= 3; what++) {
            int asked = what;
            bad(name + ": set(" + what + ", -1)", made, x -> x.set(asked, -1));
            bad(name + ": set(" + what + ", too much)", made, x -> x.set(asked, most[asked] + 1));
        }
        bad(name + ": set(-1, 0)", made, x -> x.set(-1, 0));
        bad(name + ": set(4, 0)", made, x -> x.set(4, 0));
        bad(name + ": goal(0, -1)", made, x -> x.goal(0, -1));
        bad(name + ": goal(0, 8)", made, x -> x.goal(0, 8));
        bad(name + ": goal(0, BAD)", made, x -> x.goal(0, BAD));
        badToTell(name, made);
        badOfTextAndImages(name, made);
    }

    private static void bad(String call, Supplier<MagnetChain> made, ToIntFunction<MagnetChain> asked) {
        same(call, made, asked, BAD);
    }

    private static void badMagnets(String name, Supplier<MagnetChain> made, int i) {
        bad(name + ": remove(" + i + ")", made, x -> x.remove(i));
        bad(name + ": hold(" + i + ", 1)", made, x -> x.hold(i, 1));
        bad(name + ": push(" + i + ", 1)", made, x -> x.push(i, 1));
        bad(name + ": goal(" + i + ", 0)", made, x -> x.goal(i, 0));
        bad(name + ": goal(" + i + ", NONE)", made, x -> x.goal(i, NONE));
        bad(name + ": magnet(" + i + ", 0)", made, x -> x.magnet(i, 0));
        bad(name + ": moved(" + i + ", 1)", made, x -> x.moved(i, 1));
    }

    private static void badToTell(String name, Supplier<MagnetChain> made) {
        bad(name + ": told(-1)", made, x -> x.told(-1));
        bad(name + ": told(16)", made, x -> x.told(16));
        bad(name + ": magnet(0, -1)", made, x -> x.magnet(0, -1));
        bad(name + ": magnet(0, 6)", made, x -> x.magnet(0, 6));
        bad(name + ": log(-1, 0)", made, x -> x.log(-1, 0));
        bad(name + ": log(0, -1)", made, x -> x.log(0, -1));
        bad(name + ": log(0, 3)", made, x -> x.log(0, 3));
        bad(name + ": points(-1)", made, x -> x.points(-1));
        bad(name + ": points(8)", made, x -> x.points(8));
        bad(name + ": moved(0, 0)", made, x -> x.moved(0, 0));
        bad(name + ": moved(0, -5)", made, x -> x.moved(0, -5));
        bad(name + ": moved(0, 5)", made, x -> x.moved(0, 5));
        bad(name + ": loop(0, 1, 0)", made, x -> x.loop(0, 1, 0));
        bad(name + ": loop(101, 101, 0)", made, x -> x.loop(101, 101, 0));
        bad(name + ": loop(100, 0, 0)", made, x -> x.loop(100, 0, 0));
        bad(name + ": loop(100, 9, 0)", made, x -> x.loop(100, 9, 0));
        bad(name + ": loop(11, 1, 0)", made, x -> x.loop(11, 1, 0));
        bad(name + ": loop(10, 4, 0)", made, x -> x.loop(10, 4, 0));
        bad(name + ": loop(10, 10, -1)", made, x -> x.loop(10, 10, -1));
        bad(name + ": loop(10, 10, 5)", made, x -> x.loop(10, 10, 5));
        bad(name + ": solve(-1, 0)", made, x -> x.solve(-1, 0));
        bad(name + ": solve(4, 0)", made, x -> x.solve(4, 0));
        bad(name + ": solve(0, -1)", made, x -> x.solve(0, -1));
        bad(name + ": solve(0, 3)", made, x -> x.solve(0, 3));
    }

    private static void badOfTextAndImages(String name, Supplier<MagnetChain> made) {
        bad(name + ": write(31)", made, x -> x.write(31));
        bad(name + ": write(127)", made, x -> x.write(127));
        bad(name + ": fault(-1)", made, x -> x.fault(-1));
        bad(name + ": fault(2)", made, x -> x.fault(2));
        bad(name + ": keep(-1)", made, x -> x.keep(-1));
        bad(name + ": keep(2)", made, x -> x.keep(2));
        bad(name + ": back(-1)", made, x -> x.back(-1));
        bad(name + ": back(2)", made, x -> x.back(2));
    }

    // ---- STATE

    private static void notPossibleOnNew() {
        same("new: undo()", MagnetChain::new, x -> x.undo(), STATE);
        same("new: back(0)", MagnetChain::new, x -> x.back(0), STATE);
        same("new: back(1)", MagnetChain::new, x -> x.back(1), STATE);
        same("rich: back(1)", RefusalTests::rich, x -> x.back(1), STATE);
        same("one: back(0)", RefusalTests::one, x -> x.back(0), STATE);
        Supplier<MagnetChain> undone = () -> {
            MagnetChain x = full();
            for (int k = 0; k < 8; k++) {
                x.undo();
            }
            return x;
        };
        same("all undone: undo()", undone, x -> x.undo(), STATE);
    }

    private static void notPossibleWithHeldOnes() {
        for (int by = -4; by <= 4; by++) {
            int tried = by;
            int want = by == 0 ? BAD : STATE;
            same("rich: push(3, " + by + ") of a held one", RefusalTests::rich, x -> x.push(3, tried), want);
            same("rich: moved(3, " + by + ") of a held one", RefusalTests::rich, x -> x.moved(3, tried), want);
        }
        same("full: push(5, 1) of a held one", RefusalTests::full, x -> x.push(5, 1), STATE);
        same("full: moved(5, 1) of a held one", RefusalTests::full, x -> x.moved(5, 1), STATE);
    }

    private static void notPossibleWithOne() {
        same("one: remove(0)", RefusalTests::one, x -> x.remove(0), STATE);
        Supplier<MagnetChain> held = () -> {
            MagnetChain x = one();
            x.hold(0, 1);
            return x;
        };
        same("one, held: remove(0)", held, x -> x.remove(0), STATE);
    }

    private static void nothingLeftToShed() {
        for (String text : new String[] {"04", "40", "040", "0404040404"}) {
            Supplier<MagnetChain> made = () -> {
                MagnetChain x = Chains.loaded(text, 1, 2000);
                x.goal(1, 4);
                x.keep(0);
                return x;
            };
            due.is(text + " stands", Chains.angles(made.get()), text);
            same(text + ": shed()", made, x -> x.shed(), STATE);
        }
    }

    /** A fault is told by fault(); all else is as before. */
    private static void faultsChangeTheFaultAlone() {
        String[] texts = {"", " ", "8", "!", "1 !", "1!!", "00000000000", "01234567  01 2"};
        int[] kinds = {3, 3, 1, 1, 1, 1, 2, 2};
        int[] places = {0, 1, 0, 0, 2, 2, 10, 13};
        for (int k = 0; k < texts.length; k++) {
            String text = texts[k];
            Supplier<MagnetChain> made = () -> {
                MagnetChain x = rich();
                Chains.type(x, text);
                return x;
            };
            MagnetChain x = made.get();
            due.is("load() of \"" + text + "\"", x.load(), STATE);
            due.is("fault(0) of \"" + text + "\"", x.fault(0), kinds[k]);
            due.is("fault(1) of \"" + text + "\"", x.fault(1), places[k]);
            due.is("what is told behind load() of \"" + text + "\"", tell(x, false), tell(made.get(), false));
        }
    }

    // ---- FULL

    private static void full(String name, Supplier<MagnetChain> made) {
        for (int place = 0; place <= 10; place++) {
            int tried = place;
            same(name + ": insert(" + place + ", 7)", made, x -> x.insert(tried, 7), FULL);
        }
        for (int angle = 0; angle <= 7; angle++) {
            int tried = angle;
            same(name + ": insert(10, " + angle + ")", made, x -> x.insert(10, tried), FULL);
        }
        same(name + ": write(32)", made, x -> x.write(32), FULL);
        same(name + ": write(126)", made, x -> x.write(126), FULL);
        same(name + ": write('0')", made, x -> x.write('0'), FULL);
    }

    // ---- which code, if several apply

    private static void badBeforeState() {
        due.is("remove(1) of one", one().remove(1), BAD);
        due.is("remove(-1) of one", one().remove(-1), BAD);
        due.is("push(3, 0) of a held one", rich().push(3, 0), BAD);
        due.is("push(3, 5) of a held one", rich().push(3, 5), BAD);
        due.is("push(3, -5) of a held one", rich().push(3, -5), BAD);
        due.is("moved(3, 0) of a held one", rich().moved(3, 0), BAD);
        due.is("moved(3, 5) of a held one", rich().moved(3, 5), BAD);
        due.is("moved(3, -5) of a held one", rich().moved(3, -5), BAD);
        due.is("back(2) with nothing kept", new MagnetChain().back(2), BAD);
        due.is("back(-1) with nothing kept", new MagnetChain().back(-1), BAD);
    }

    private static void badBeforeFull() {
        due.is("insert(11, 0) of ten", full().insert(11, 0), BAD);
        due.is("insert(-1, 0) of ten", full().insert(-1, 0), BAD);
        due.is("insert(10, 8) of ten", full().insert(10, 8), BAD);
        due.is("insert(0, -1) of ten", full().insert(0, -1), BAD);
        due.is("write(31) to 40 bytes", full().write(31), BAD);
        due.is("write(127) to 40 bytes", full().write(127), BAD);
    }

    /** NONE is told only if no error code applies. */
    private static void errorsBeforeNone() {
        MagnetChain x = new MagnetChain();
        due.is("magnet(3, 2) without a goal", x.magnet(3, 2), NONE);
        due.is("magnet(4, 2)", x.magnet(4, 2), BAD);
        due.is("goal(3, NONE) without a goal", x.goal(3, NONE), NONE);
        due.is("goal(4, NONE)", x.goal(4, NONE), BAD);
        due.is("goal(0, 8) without a goal", x.goal(0, 8), BAD);
        due.is("log(0, 2) of none", x.log(0, 2), NONE);
        due.is("log(0, 3) of none", x.log(0, 3), BAD);
        due.is("log(-1, 2) of none", x.log(-1, 2), BAD);
        due.is("fault(1) of none", x.fault(1), NONE);
        due.is("fault(2) of none", x.fault(2), BAD);
        due.is("loop(1, 1, 2) of none", x.loop(1, 1, 2), NONE);
        due.is("loop(1, 2, 2)", x.loop(1, 2, 2), BAD);
        due.is("solve(3, 2) solved", x.solve(3, 2), NONE);
        due.is("solve(4, 2) solved", x.solve(4, 2), BAD);
        x.goal(0, 4);
        x.hold(0, 1);
        due.is("solve(3, 0) of none", x.solve(3, 0), NONE);
        due.is("solve(4, 0) of none", x.solve(4, 0), BAD);
        due.is("solve(3, 3) of none", x.solve(3, 3), BAD);
    }

    // ---- calls that only tell

    private static void tellingChangesNothing(String name, Supplier<MagnetChain> made) {
        MagnetChain x = made.get();
        x.mean();
        x.fault(0);
        for (int by = -4; by <= 4; by++) {
            x.moved(0, by);
        }
        for (int what = 0; what <= 4; what++) {
            x.loop(100, 10, what);
            x.loop(1, 1, what);
        }
        for (int most = 0; most <= 3; most++) {
            x.solve(most, most % 3);
        }
        due.is(name + ": what is told behind what-ifs", tell(x, true), tell(made.get(), true));
    }
}
