/**
 * The edges of each promise, by its number: the first and the last magnet, one magnet and ten, the empty and the
 * full, what goes round. (Ranges: RangeTests; refused calls: RefusalTests.) All answers are worked out by hand.
 */
public final class EdgeTests {
    private static final int STATE = -1000000002, FULL = -1000000003, NONE = -1000000009;
    private static final int COUPLING = 0, DEPTH = 1, STRENGTH = 2, SIDE = 3;
    private static final int ENERGY = 1, WORK = 2, HEAT = 3, TURNS = 8, PUSHES = 9, LOGGED = 10;
    private static final int WALLS = 11, MISSED = 12, HELD = 13, LENGTH = 14, UNDOABLE = 15;

    private static final Due due = new Due();

    public static void main(String[] args) {
        newObjects();
        beginWithOneAndTen();
        beginForgets();
        beginCountsNoWork();
        insertAtBothEnds();
        insertUpToTen();
        removeAtBothEnds();
        removeDownToOne();
        shedAboveZeroOnly();
        shedAtOnce();
        shedAllButOne();
        shedOfOne();
        reverseEachAngle();
        reverseOneAndTen();
        reverseAheadOfSettling();
        holdAndLetGo();
        pushByFour();
        pushesThatTurnNothing();
        setToBothEnds();
        goalAtBothEnds();
        undoOneAndAll();
        toldOfOneAndTen();
        wallsGoRound();
        pushesCounted();
        logAtBothEnds();
        logNumbersStay();
        pointsOfOneAndTen();
        meanOfOneAndTen();
        movedIsLikePush();
        loopOfOneStep();
        loopOfTenSteps();
        loopBeginsWithZero();
        loopFirstAndLast();
        loopLeavesAll();
        solveByNone();
        solveByUpToThree();
        solvePastHeldOnes();
        solveGoesRound();
        solveTheLowerMagnetFirst();
        solveIsLikePushing();
        writeUpToForty();
        wipeToNone();
        loadOneAndTen();
        loadLeaves();
        theLatestFault();
        keepOneAndTen();
        imagesStay();
        backIsRecordedBehind();
        due.end("EdgeTests");
    }

    // ---- 1 to 4

    private static void newObjects() {
        MagnetChain used = Chains.still("1!2!");
        used.keep(0);
        used.keep(1);
        used.write('x');
        used.load();
        MagnetChain x = new MagnetChain();
        due.is("magnets of a new object", Chains.magnets(x), "0000");
        due.is("told(14) of it", x.told(LENGTH), 0);
        due.is("told(15) of it", x.told(UNDOABLE), 0);
        due.is("undo() of it", x.undo(), STATE);
        due.is("back(0) of it", x.back(0), STATE);
        due.is("back(1) of it", x.back(1), STATE);
        due.is("fault(0) of it", x.fault(0), NONE);
        due.is("fault(1) of it", x.fault(1), NONE);
        due.is("magnets of the used one", Chains.magnets(used), "1!2!");
    }

    private static void beginWithOneAndTen() {
        MagnetChain x = new MagnetChain();
        int[] begun = {1, 1, 10, 10, 1, 4, 9, 2};
        int previous = 4;
        for (int n : begun) {
            due.is("begin(" + n + ")", x.begin(n), previous);
            due.is("magnets behind it", Chains.magnets(x), "0000000000".substring(0, n));
            previous = n;
        }
        due.is("told(15) behind them", x.told(UNDOABLE), 8);
    }

    private static void beginForgets() {
        MagnetChain x = Chains.still("7!7!7!7!7!7!7!7!7!7!");
        for (int i = 0; i < 10; i++) {
            x.goal(i, 7);
        }
        int[] ends = {20, 2000, 100, 7};
        for (int what = 0; what <= 3; what++) {
            x.set(what, ends[what]);
        }
        x.hold(0, 0);
        // The last turn, from 0 to 7, sets free 3000 by the field and costs 22 * 93 by the pull of two 7s.
        due.is("turns of a push", x.push(0, 4), 3);
        due.holds("heat and work are counted", x.told(HEAT) > 0 && x.told(WORK) != 0);
        due.is("told(10) behind it", x.told(LOGGED), 3);
        x.begin(10);
        due.is("magnets behind begin(10)", Chains.magnets(x), "0000000000");
        due.is("goals behind begin(10)", Chains.goals(x), "----------");
        due.is("told(9) behind begin(10)", x.told(PUSHES), 0);
        for (int what = 0; what <= 3; what++) {
            due.is("told(" + (what + 4) + ") behind begin(10)", x.told(what + 4), ends[what]);
        }
        for (int what : new int[] {WORK, HEAT, TURNS, PUSHES, LOGGED}) {
            due.is("told(" + what + ") behind it", x.told(what), 0);
        }
        due.is("log(0, 0) behind it", x.log(0, 0), NONE);
    }

    /** "no work is counted for this; then the chain settles": the turns count in the new books. */
    private static void beginCountsNoWork() {
        MagnetChain x = Chains.inField("4!", 0, 100, 4);
        x.push(0, 1);
        due.is("told(2) before begin(2)", x.told(WORK), 6400 - 10000);
        due.is("begin(2)", x.begin(2), 1);
        due.is("told(2)", x.told(WORK), 0);
        due.is("told(3)", x.told(HEAT), 40000);
        due.is("told(8)", x.told(TURNS), 8);
        due.is("turns", Chains.turns(x), "1+1+1+1+0+0+0+0+");
        due.is("told(1)", x.told(ENERGY), -20000);
    }

    private static void insertAtBothEnds() {
        MagnetChain x = Chains.still("1!2");
        x.goal(0, 5);
        x.goal(1, 6);
        due.is("insert(0, 0)", x.insert(0, 0), 3);
        due.is("magnets", Chains.magnets(x), "01!2");
        due.is("goals", Chains.goals(x), "-56");
        due.is("insert(3, 7)", x.insert(3, 7), 4);
        due.is("magnets", Chains.magnets(x), "01!27");
        due.is("goals", Chains.goals(x), "-56-");
        due.is("insert(3, 4)", x.insert(3, 4), 5);
        due.is("magnets", Chains.magnets(x), "01!247");
        due.is("goals", Chains.goals(x), "-56--");
        due.is("insert(1, 3)", x.insert(1, 3), 6);
        due.is("magnets", Chains.magnets(x), "031!247");
        due.is("goals", Chains.goals(x), "--56--");
        x = Chains.still("6!");
        due.is("insert(1, 0) to one", x.insert(1, 0), 2);
        due.is("magnets", Chains.magnets(x), "6!0");
        x = Chains.still("6!");
        due.is("insert(0, 7) to one", x.insert(0, 7), 2);
        due.is("magnets", Chains.magnets(x), "76!");
    }

    /** FULL "if there are 10 magnets", at each place. */
    private static void insertUpToTen() {
        for (int place = 0; place <= 10; place++) {
            MagnetChain x = Chains.still("1!234567012");
            due.is("told(0) with ten", x.told(0), 10);
            due.is("insert(" + place + ", 0) with ten", x.insert(place, 0), FULL);
            due.is("magnets behind it", Chains.magnets(x), "1!234567012");
            x.remove(9);
            int where = Math.min(place, 9);
            due.is("insert(" + where + ", 5) with nine", x.insert(where, 5), 10);
            due.is("insert(" + where + ", 5) again", x.insert(where, 5), FULL);
            due.is("magnet(" + where + ", 0)", x.magnet(where, 0), 5);
            due.is("held ones", x.told(HELD), 1);
            due.is("the held one", x.magnet(where == 0 ? 1 : 0, 1), 1);
        }
    }

    private static void removeAtBothEnds() {
        MagnetChain x = Chains.still("7!12!3456!705");
        for (int i = 0; i < 9; i++) {
            x.goal(i, i % 8);
        }
        due.is("remove(0)", x.remove(0), 7);
        due.is("magnets", Chains.magnets(x), "12!3456!705");
        due.is("goals", Chains.goals(x), "12345670-");
        due.is("remove(8)", x.remove(8), 5);
        due.is("magnets", Chains.magnets(x), "12!3456!70");
        due.is("goals", Chains.goals(x), "12345670");
        due.is("remove(1)", x.remove(1), 2);
        due.is("magnets", Chains.magnets(x), "13456!70");
        due.is("goals", Chains.goals(x), "1345670");
        due.is("remove(6)", x.remove(6), 0);
        due.is("magnets", Chains.magnets(x), "13456!7");
        due.is("goals", Chains.goals(x), "134567");
        due.is("remove(5)", x.remove(5), 7);
        due.is("remove(4)", x.remove(4), 6);
        due.is("magnets", Chains.magnets(x), "1345");
        due.is("goals", Chains.goals(x), "1345");
    }

    private static void removeDownToOne() {
        MagnetChain x = Chains.still("0123456701");
        int[] angles = {1, 0, 7, 6, 5, 4, 3, 2, 1};
        for (int n = 10; n >= 2; n--) {
            due.is("remove the last of " + n, x.remove(n - 1), angles[10 - n]);
            due.is("told(0) then", x.told(0), n - 1);
        }
        due.is("remove(0) of the only one", x.remove(0), STATE);
        due.is("magnets then", Chains.magnets(x), "0");
        x = Chains.still("0123456701");
        for (int n = 10; n >= 2; n--) {
            due.is("remove the first of " + n, x.remove(0), (10 - n) % 8);
        }
        due.is("remove(0) of the only one", x.remove(0), STATE);
        due.is("magnets then", Chains.magnets(x), "1");
        due.is("insert(0, 2) to it", x.insert(0, 2), 2);
        due.is("remove(1) again", x.remove(1), 1);
    }

    // ---- 5: shed

    private static void sheds(String text, int coupling, int shed, String left) {
        MagnetChain x = Chains.loaded(text, coupling, 2000);
        due.is(text + " stands", Chains.magnets(x), text);
        int changes = x.told(UNDOABLE);
        due.is("shed() of " + text, x.shed(), shed);
        due.is("magnets behind shed() of " + text, Chains.magnets(x), left);
        due.is("told(15) behind shed() of " + text, x.told(UNDOABLE), shed == STATE ? changes : changes + 1);
    }

    /** "above 0": U(0, 2) = 0, U(1, 5) = 47, U(1, 6) = -70, U(1, 1) = -47, U(1, 2) = 70, U(0, 4) = 200. */
    private static void shedAboveZeroOnly() {
        sheds("02", 1, 0, "02");
        sheds("20", 1, 0, "20");
        sheds("202", 1, 0, "202");
        sheds("15!", 1, 1, "5!");
        sheds("15", 1, STATE, "15");
        sheds("516", 1, 1, "16");
        sheds("112", 1, 2, "1");
        sheds("004!", 1, 0, "004!");
        // U(1, 3) + U(1, 0) = 147 - 140, the least sum above 0; U(1, 4) + U(1, 7) = 140 - 147.
        sheds("3!10!", 1, 1, "3!0!");
        sheds("4!17!", 1, 0, "4!17!");
        sheds("3!17!", 1, 0, "3!17!");
        sheds("15!", 0, 0, "15!");
        sheds("0000000000", 1, 0, "0000000000");
    }

    /** "They are found first, and taken out then": behind the first one the next would stay. */
    private static void shedAtOnce() {
        sheds("0040", 1, 2, "00");
        sheds("0400", 1, 2, "00");
        sheds("04004", 1, 3, "00");
        sheds("00400400", 1, 2, "000000");
        sheds("0!4!4", 1, 0, "0!4!4");
        sheds("0!40!", 1, 1, "0!0!");
    }

    private static void shedAllButOne() {
        sheds("04!", 1, 1, "4!");
        sheds("0!4", 1, 1, "0!");
        sheds("040404040!4", 1, 9, "0!");
        sheds("0!404040404", 1, 9, "0!");
        sheds("0404040404", 1, STATE, "0404040404");
        sheds("0!4!0!4!0!4!0!4!0!4!", 1, 0, "0!4!0!4!0!4!0!4!0!4!");
        sheds("040404040!4!", 1, 8, "0!4!");
    }

    /** "0 for a magnet alone" is not above 0. */
    private static void shedOfOne() {
        for (int angle = 0; angle <= 7; angle++) {
            sheds("" + angle, 20, 0, "" + angle);
            sheds(angle + "!", 20, 0, angle + "!");
        }
    }

    // ---- 6: reverse

    private static void reverseEachAngle() {
        int[] mirrored = {4, 3, 2, 1, 0, 7, 6, 5};
        for (int angle = 0; angle <= 7; angle++) {
            MagnetChain x = Chains.still("" + angle);
            x.goal(0, angle);
            due.is("reverse() of " + angle, x.reverse(), mirrored[angle] == angle ? 0 : 1);
            due.is("angle behind it", x.magnet(0, 0), mirrored[angle]);
            due.is("goal behind it", x.magnet(0, 2), mirrored[angle]);
            x.goal(0, NONE);
            x.reverse();
            due.is("angle behind a second one", x.magnet(0, 0), angle);
            due.is("goal behind a second one", x.magnet(0, 2), NONE);
        }
    }

    private static void reverseOneAndTen() {
        MagnetChain x = Chains.still("0!123456701");
        x.goal(0, 7);
        x.goal(9, 0);
        due.is("reverse() of ten", x.reverse(), 10);
        due.is("magnets behind it", Chains.magnets(x), "3456701234!");
        due.is("goals behind it", Chains.goals(x), "4--------5");
        due.is("reverse() again", x.reverse(), 10);
        due.is("magnets behind it", Chains.magnets(x), "0!123456701");
        due.is("goals behind it", Chains.goals(x), "7--------0");
        x = Chains.still("6!2!6!");
        due.is("reverse() of 6!2!6!", x.reverse(), 0);
        due.is("magnets behind it", Chains.magnets(x), "6!2!6!");
        x = Chains.still("04");
        due.is("reverse() of 04", x.reverse(), 0);
        x = Chains.still("00");
        due.is("reverse() of 00", x.reverse(), 2);
        x = Chains.still("004");
        due.is("reverse() of 004", x.reverse(), 1);
        due.is("magnets behind it", Chains.magnets(x), "044");
    }

    /** "at how many places another angle stands then than before, ahead of the settling". */
    private static void reverseAheadOfSettling() {
        MagnetChain x = Chains.inField("00", 0, 1, 0);
        due.is("reverse() of 00 in a field", x.reverse(), 2);
        due.is("magnets behind it", Chains.magnets(x), "00");
        due.is("told(8) behind it", x.told(TURNS), 8);
        x = Chains.inField("2!2!", 0, 100, 0);
        due.is("reverse() of 2!2! in a field", x.reverse(), 0);
        due.is("told(8) behind it", x.told(TURNS), 0);
    }

    // ---- 7 to 11

    private static void holdAndLetGo() {
        MagnetChain x = Chains.still("0000000000");
        for (int i : new int[] {0, 9}) {
            due.is("hold(" + i + ", 0) of one not held", x.hold(i, 0), 0);
            due.is("hold(" + i + ", 1)", x.hold(i, 1), 0);
            due.is("hold(" + i + ", 1) again", x.hold(i, 1), 1);
            due.is("magnet(" + i + ", 1)", x.magnet(i, 1), 1);
        }
        due.is("told(13)", x.told(HELD), 2);
        x.set(SIDE, 7);
        due.is("turns of the others", x.set(STRENGTH, 100), 8);
        due.is("hold(9, 0)", x.hold(9, 0), 1);
        due.is("magnets behind it", Chains.magnets(x), "0!777777777");
        due.is("hold(0, 0)", x.hold(0, 0), 1);
        due.is("magnets behind it", Chains.magnets(x), "7777777777");
        due.is("hold(0, 0) again", x.hold(0, 0), 0);
    }

    private static void pushByFour() {
        int[] turns = {4, 3, 2, 1, 0, 1, 2, 3, 4};
        for (int by = -4; by <= 4; by++) {
            if (by == 0) {
                continue;
            }
            for (int i : new int[] {0, 9}) {
                MagnetChain x = Chains.inField("7777777777", 0, 100, 7);
                due.is("push(" + i + ", " + by + ")", x.push(i, by), turns[by + 4]);
                due.is("magnets behind it", Chains.magnets(x), "7777777777");
                due.is("told(8) behind it", x.told(TURNS), turns[by + 4]);
                due.is("told(10) behind it", x.told(LOGGED), turns[by + 4]);
                due.is("direction of its turns", x.log(0, 1), by > 0 && by < 4 ? -1 : 1);
            }
        }
    }

    private static void pushesThatTurnNothing() {
        MagnetChain x = Chains.still("00");
        due.is("push(0, 4)", x.push(0, 4), 0);
        due.is("push(1, -4)", x.push(1, -4), 0);
        due.is("magnets", Chains.magnets(x), "44");
        due.is("told(9)", x.told(PUSHES), 2);
        due.is("push(0, 4) again", x.push(0, 4), 0);
        due.is("magnets", Chains.magnets(x), "04");
        due.is("told(8)", x.told(TURNS), 0);
    }

    private static void setToBothEnds() {
        int[] first = {10, 300, 0, 0};
        int[] most = {20, 2000, 100, 7};
        for (int what = 0; what <= 3; what++) {
            MagnetChain x = new MagnetChain();
            due.is("told(" + (what + 4) + ") at first", x.told(what + 4), first[what]);
            for (int value : new int[] {0, most[what], 1, most[what] - 1, 0, most[what]}) {
                x.set(what, value);
                due.is("told(" + (what + 4) + ") behind set(" + what + ", " + value + ")", x.told(what + 4), value);
            }
            for (int other = 0; other <= 3; other++) {
                if (other != what) {
                    due.is("told(" + (other + 4) + ") behind set(" + what + ")", x.told(other + 4), first[other]);
                }
            }
        }
    }

    private static void goalAtBothEnds() {
        MagnetChain x = new MagnetChain();
        x.begin(10);
        for (int i : new int[] {0, 9}) {
            due.is("goal(" + i + ", 0)", x.goal(i, 0), NONE);
            due.is("goal(" + i + ", 7)", x.goal(i, 7), 0);
            due.is("magnet(" + i + ", 2)", x.magnet(i, 2), 7);
            due.is("goal(" + i + ", NONE)", x.goal(i, NONE), 7);
            due.is("goal(" + i + ", NONE) again", x.goal(i, NONE), NONE);
            due.is("goal(" + i + ", 1)", x.goal(i, 1), NONE);
        }
        due.is("goals", Chains.goals(x), "1--------1");
        due.is("told(12)", x.told(12), 2);
    }

    private static void undoOneAndAll() {
        MagnetChain x = new MagnetChain();
        due.is("undo() of none", x.undo(), STATE);
        x.insert(0, 0);
        due.is("undo() of one", x.undo(), 0);
        due.is("told(0) behind it", x.told(0), 4);
        due.is("undo() of none again", x.undo(), STATE);
        for (int k = 0; k < 6; k++) {
            x.insert(0, 0);
        }
        due.is("insert() of an eleventh", x.insert(0, 0), FULL);
        for (int k = 5; k >= 0; k--) {
            due.is("undo() with " + k + " left", x.undo(), k);
            due.is("told(0) behind it", x.told(0), 4 + k);
        }
        due.is("undo() of no more", x.undo(), STATE);
    }

    // ---- 12 to 17

    private static void toldOfOneAndTen() {
        MagnetChain x = Chains.still("3");
        int[] one = {1, 0, 6400, 0, 0, 2000, 0, 0, 0, 0, 0, 0, 0, 0, 1, 3};
        for (int what = 0; what <= 15; what++) {
            due.is("told(" + what + ") of one", x.told(what), one[what]);
        }
        x = Chains.loaded("0!4!0!4!0!4!0!4!0!4!", 20, 0);
        for (int i = 0; i < 10; i++) {
            x.goal(i, 7);
        }
        // U(0, 4) = 200 for nine pairs of neighbors, U(0, 0) = U(4, 4) = -200 for eight with one between.
        int energy = 20 * 9 * 200 - 2 * 8 * 200;
        int[] ten = {10, energy, 6400 + energy, 0, 20, 0, 0, 0, 0, 0, 0, 9, 10, 10, 20, 8};
        for (int what = 0; what <= 15; what++) {
            due.is("told(" + what + ") of ten", x.told(what), ten[what]);
        }
    }

    /** "pairs of neighbors with different angles": also 7 and 0, but not the last and the first magnet. */
    private static void wallsGoRound() {
        String[] texts = {"5", "07", "70", "00", "77", "007", "077", "0707070707", "0000000001", "1000000000",
            "0000000000", "0123456701", "04", "0440"};
        int[] walls = {0, 1, 1, 0, 0, 1, 1, 9, 1, 1, 0, 9, 1, 2};
        for (int k = 0; k < texts.length; k++) {
            due.is("told(11) of " + texts[k], Chains.still(texts[k]).told(WALLS), walls[k]);
        }
    }

    /** "calls of push() so far that were changes". */
    private static void pushesCounted() {
        MagnetChain x = Chains.still("0!0");
        x.push(0, 1);
        x.push(1, 0);
        x.push(2, 1);
        x.moved(1, 1);
        due.is("told(9) behind refused pushes", x.told(PUSHES), 0);
        x.push(1, 1);
        x.push(1, -1);
        due.is("told(9) behind two", x.told(PUSHES), 2);
        x.keep(0);
        x.push(1, 4);
        x.load();
        due.is("told(9) behind load()", x.told(PUSHES), 3);
        x.undo();
        x.undo();
        due.is("told(9) behind undo()", x.told(PUSHES), 2);
        x.begin(2);
        due.is("told(9) behind begin()", x.told(PUSHES), 0);
        x.back(0);
        due.is("told(9) behind back()", x.told(PUSHES), 2);
    }

    private static void logAtBothEnds() {
        MagnetChain x = Chains.inField("3", 0, 100, 0);
        int[] heats = {3000, 7000, 7000};
        for (int k = 0; k < 3; k++) {
            due.is("log(" + k + ", 0)", x.log(k, 0), 0);
            due.is("log(" + k + ", 1)", x.log(k, 1), -1);
            due.is("log(" + k + ", 2)", x.log(k, 2), heats[k]);
        }
        for (int what = 0; what <= 2; what++) {
            due.is("log(3, " + what + ")", x.log(3, what), NONE);
            due.is("log(most, " + what + ")", x.log(Integer.MAX_VALUE, what), NONE);
        }
        for (int k = 0; k < 7; k++) {
            x.push(0, 4);
        }
        due.is("told(8)", x.told(TURNS), 31);
        due.is("told(10)", x.told(LOGGED), 30);
        due.is("log(29, 1), the oldest", x.log(29, 1), -1);
        due.is("log(28, 1)", x.log(28, 1), -1);
        due.is("log(27, 1)", x.log(27, 1), 1);
        for (int what = 0; what <= 2; what++) {
            due.is("log(30, " + what + ")", x.log(30, what), NONE);
        }
    }

    /** "the magnet (its number then)": what is put in, taken out or turned about changes no number in the log. */
    private static void logNumbersStay() {
        MagnetChain x = Chains.inField("0007", 0, 1, 0);
        due.is("turns", Chains.turns(x), "3+");
        x.insert(0, 0);
        due.is("turns behind insert()", Chains.turns(x), "3+");
        x.remove(0);
        x.remove(0);
        x.remove(0);
        x.remove(0);
        due.is("told(0) then", x.told(0), 1);
        due.is("turns behind remove()", Chains.turns(x), "3+");
        Chains.type(x, "0!");
        x.load();
        x.reverse();
        due.is("turns behind load() and reverse()", Chains.turns(x), "3+");
    }

    private static void pointsOfOneAndTen() {
        MagnetChain x = Chains.still("0123456701");
        int[] sums = {10 + 7, 7 + 10, 0 + 7, -7 + 0, -10 - 7, -7 - 10, 0 - 7, 7 + 0};
        for (int side = 0; side <= 7; side++) {
            due.is("points(" + side + ") of ten", x.points(side), sums[side]);
        }
        int[] ones = {7, 0, -7, -10, -7, 0, 7, 10};
        x = Chains.still("7");
        for (int side = 0; side <= 7; side++) {
            due.is("points(" + side + ") of one", x.points(side), ones[side]);
        }
    }

    private static void meanOfOneAndTen() {
        MagnetChain x = Chains.still("0!");
        due.is("mean() of no energy", x.mean(), 0.0f);
        x.set(STRENGTH, 100);
        due.is("mean() of one", x.mean(), -10000.0f);
        x = new MagnetChain();
        x.begin(10);
        due.is("mean() of ten", x.mean(), -1960.0f);
        // U(0, 1) = -140, U(1, 2) = 70
        due.is("mean() of three", Chains.loaded("0!1!2!", 1, 2000).mean(), -23.333334f);
        due.is("mean() of seven", Chains.loaded("0000000", 1, 2000).mean(), -171.42857f);
        due.is("mean() above 0", Chains.loaded("0!4!0!", 1, 2000).mean(), 133.33333f);
    }

    private static void movedIsLikePush() {
        String[] texts = {"0", "70", "2416", "01234567", "6575657565"};
        for (String text : texts) {
            for (int by = -4; by <= 4; by++) {
                for (int i = 0; i < text.length() && by != 0; i++) {
                    MagnetChain x = Chains.loaded(text, 5, 20);
                    int turns = x.moved(i, by);
                    due.is("moved(" + i + ", " + by + ") in " + text, turns, x.push(i, by));
                    due.is("told(9) behind both", x.told(PUSHES), 1);
                }
            }
        }
    }

    // ---- 18: loop

    private static void loopIs(String name, MagnetChain x, int most, int step, int[] want) {
        for (int what = 0; what <= 4; what++) {
            due.is("loop(" + most + ", " + step + ", " + what + ") of " + name, x.loop(most, step, what), want[what]);
        }
    }

    /** The way 0, most, 0, -most, 0, most, on which the magnet turns round at -most and at the end. */
    private static void loopOfOneStep() {
        for (int side = 0; side <= 7; side++) {
            MagnetChain x = Chains.inField("" + side, 300, 0, side);
            loopIs("one to " + side, x, 100, 100, new int[] {-4000, 10, -100, 8, 10});
            x.set(DEPTH, 0);
            loopIs("one to " + side + " without a depth", x, 1, 1, new int[] {-40, 10, -1, 8, 10});
            x.set(DEPTH, 2000);
            loopIs("one to " + side + " that stands", x, 50, 50, new int[] {0, 10, NONE, 0, 10});
        }
    }

    /** Steps of just a tenth of most: the depth of 300 lets the magnet turn at -20 and at 20, behind -10 and 10. */
    private static void loopOfTenSteps() {
        MagnetChain x = Chains.inField("3", 300, 0, 3);
        loopIs("one", x, 100, 10, new int[] {-1200, 10, -20, 8, 10});
        x.set(DEPTH, 299);
        loopIs("one", x, 100, 10, new int[] {-400, 10, -10, 8, 10});
        x.set(DEPTH, 0);
        loopIs("one", x, 10, 1, new int[] {-40, 10, -1, 8, 10});
        loopIs("one", x, 20, 2, new int[] {-80, 10, -2, 8, 10});
        loopIs("one", x, 90, 9, new int[] {-360, 10, -9, 8, 10});
        loopIs("one", x, 99, 11, new int[] {-440, 10, -11, 8, 10});
    }

    /** "beginning with 0 (whatever the strength is now; the chain settles there, too)". */
    private static void loopBeginsWithZero() {
        MagnetChain x = Chains.inField("0!4", 300, 100, 4);
        x.set(COUPLING, 10);
        due.is("magnets in the field", Chains.magnets(x), "0!4");
        loopIs("0!4", x, 1, 1, new int[] {0, -20, 0, 4, -20});
        loopIs("0!4", x, 100, 100, new int[] {0, -20, 0, 16, 0});
        due.is("told(6) behind it", x.told(6), 100);
        due.is("magnets behind it", Chains.magnets(x), "0!4");
        // Now the chain is at rest without a field, and the turns at the first 0 are done already.
        x.set(STRENGTH, 0);
        due.is("magnets in no field", Chains.magnets(x), "0!0");
        loopIs("0!0", x, 1, 1, new int[] {0, -20, 0, 0, -20});
        loopIs("0!0", x, 100, 100, new int[] {0, -20, 0, 12, 0});
    }

    /** "the first H on the way down, from most minus step to -most, at which P is at most 0". */
    private static void loopFirstAndLast() {
        int[][] steps = {{100, 10}, {100, 100}, {1, 1}, {10, 1}, {60, 20}};
        int[] first = {90, 0, 0, 9, 40};
        for (int k = 0; k < steps.length; k++) {
            String loop = "loop(" + steps[k][0] + ", " + steps[k][1] + ", 2)";
            due.is(loop + " of 0 points", Chains.still("2!").loop(steps[k][0], steps[k][1], 2), first[k]);
            due.is(loop + " of -7 points", Chains.still("3!").loop(steps[k][0], steps[k][1], 2), first[k]);
            due.is(loop + " of 7 points", Chains.still("1!").loop(steps[k][0], steps[k][1], 2), NONE);
            due.is(loop + " of 0 points at once", Chains.still("0!4!").loop(steps[k][0], steps[k][1], 2), first[k]);
        }
        due.is("loop(9, 3, 2) of 1 point", Chains.still("1!1!1!4!4!").loop(9, 3, 2), NONE);
        due.is("loop(9, 3, 2) of -1 point", Chains.still("5!5!5!0!0!").loop(9, 3, 2), 6);
        MagnetChain x = Chains.inField("0", 2000, 0, 0);
        due.is("loop(60, 20, 2): never", x.loop(60, 20, 2), NONE);
        x.set(DEPTH, 1799);
        due.is("loop(60, 20, 2): at the last", x.loop(60, 20, 2), -60);
        x.set(DEPTH, 1800);
        due.is("loop(60, 20, 2): not even there", x.loop(60, 20, 2), NONE);
        x.set(DEPTH, 1199);
        due.is("loop(60, 20, 2): before the last", x.loop(60, 20, 2), -40);
    }

    private static void loopLeavesAll() {
        MagnetChain x = Chains.inField("0000000000", 0, 3, 2);
        String turns = Chains.turns(x);
        int heat = x.told(HEAT);
        int work = x.told(WORK);
        due.is("loop(100, 10, 3) of ten", x.loop(100, 10, 3), 2 * 40);
        due.is("loop(100, 10, 4) of ten", x.loop(100, 10, 4), 100);
        due.is("magnets behind it", Chains.magnets(x), "2222222222");
        due.is("turns behind it", Chains.turns(x), turns);
        due.is("told(3) behind it", x.told(HEAT), heat);
        due.is("told(2) behind it", x.told(WORK), work);
        due.is("told(6) behind it", x.told(6), 3);
        due.is("told(7) behind it", x.told(7), 2);
    }

    // ---- 19: solve

    private static void solves(String name, MagnetChain x, int most, int pushes, int magnet, int direction) {
        due.is("solve(" + most + ", 0) of " + name, x.solve(most, 0), pushes);
        due.is("solve(" + most + ", 1) of " + name, x.solve(most, 1), magnet);
        due.is("solve(" + most + ", 2) of " + name, x.solve(most, 2), direction);
    }

    private static void solveByNone() {
        MagnetChain x = Chains.still("0!000000007");
        x.goal(0, 0);
        x.goal(9, 7);
        for (int most = 0; most <= 3; most++) {
            solves("a solved one", x, most, 0, NONE, NONE);
        }
        x.goal(0, 1);
        for (int most = 0; most <= 3; most++) {
            solves("a held one", x, most, NONE, NONE, NONE);
        }
    }

    private static void solveByUpToThree() {
        for (int i = 0; i <= 9; i++) {
            MagnetChain x = Chains.still("0000000000");
            int[] needed = {0, 1, 2, 3, NONE, 3, 2, 1};
            for (int goal = 0; goal <= 7; goal++) {
                x.goal(i, goal);
                for (int most = 0; most <= 3; most++) {
                    boolean isSolved = needed[goal] != NONE && needed[goal] <= most;
                    boolean isPushed = isSolved && needed[goal] > 0;
                    solves("goal " + goal + " of " + i, x, most, isSolved ? needed[goal] : NONE,
                            isPushed ? i : NONE, isPushed ? (goal < 4 ? 1 : -1) : NONE);
                }
            }
        }
    }

    /** "magnets that are not held": the held ones are passed over, wherever they stand. */
    private static void solvePastHeldOnes() {
        MagnetChain x = Chains.still("0!0!0!0!0!0!0!0!0!0");
        x.goal(9, 2);
        solves("the last, not held", x, 3, 2, 9, 1);
        x = Chains.still("0!00!0!0!0!0!0!00!");
        x.goal(1, 7);
        x.goal(8, 6);
        solves("two between held ones", x, 3, 3, 1, -1);
        x.goal(9, 0);
        solves("two between held ones", x, 3, 3, 1, -1);
        x.goal(9, 1);
        solves("a held one off its goal", x, 3, NONE, NONE, NONE);
    }

    private static void solveGoesRound() {
        MagnetChain x = Chains.still("70");
        x.goal(0, 0);
        solves("7 to 0", x, 1, 1, 0, 1);
        x.goal(0, 2);
        solves("7 to 2", x, 3, 3, 0, 1);
        x.goal(0, NONE);
        x.goal(1, 7);
        solves("0 to 7", x, 1, 1, 1, -1);
        x.goal(1, 5);
        solves("0 to 5", x, 3, 3, 1, -1);
    }

    private static void solveTheLowerMagnetFirst() {
        MagnetChain x = Chains.still("0000000000");
        x.goal(9, 1);
        x.goal(8, 7);
        solves("the last two", x, 3, 2, 8, -1);
        x.goal(0, 7);
        solves("three", x, 3, 3, 0, -1);
        x.hold(0, 1);
        solves("three, one held", x, 3, NONE, NONE, NONE);
        x.hold(0, 0);
        x.goal(1, 1);
        solves("four", x, 3, NONE, NONE, NONE);
        // In this field a magnet at 4 falls from 3 or from 5 to 0, whichever way it is pushed.
        x = Chains.inField("4", 500, 10, 0);
        due.is("the magnet stands at 4", Chains.magnets(x), "4");
        x.goal(0, 1);
        solves("a fall", x, 3, 1, 0, -1);
        x.goal(0, 7);
        solves("a fall to the other side", x, 3, 1, 0, 1);
        x.goal(0, 0);
        solves("a fall and a push", x, 3, 2, 0, 1);
    }

    /** All goals of the first two magnets, each asked of solve() and tried by push() and undo(). */
    private static void solveIsLikePushing() {
        String[] texts = {"0", "05", "24!6", "3!017", "6175"};
        for (String text : texts) {
            for (int goals = 0; goals < 64; goals++) {
                MagnetChain x = Chains.loaded(text, 2, 150);
                x.set(SIDE, 3);
                x.set(STRENGTH, 4);
                x.goal(0, goals % 8);
                x.goal(x.told(0) - 1, goals / 8);
                int[] way = shortestWay(x);
                solves(text + " to " + Chains.goals(x), x, 3, way[0], way[1], way[2]);
            }
        }
    }

    /** The number of pushes, the magnet and the direction of the first one, NONE where there is none. */
    private static int[] shortestWay(MagnetChain x) {
        for (int pushes = 0; pushes <= 3; pushes++) {
            int[] first = firstOfWay(x, pushes);
            if (first != null) {
                return new int[] {pushes, first[0], first[1]};
            }
        }
        return new int[] {NONE, NONE, NONE};
    }

    private static int[] firstOfWay(MagnetChain x, int pushes) {
        if (pushes == 0) {
            return x.told(MISSED) == 0 ? new int[] {NONE, NONE} : null;
        }
        for (int i = 0; i < x.told(0); i++) {
            for (int direction = 1; direction >= -1; direction -= 2) {
                if (x.push(i, direction) == STATE) {
                    continue;
                }
                boolean isWay = firstOfWay(x, pushes - 1) != null;
                x.undo();
                if (isWay) {
                    return new int[] {i, direction};
                }
            }
        }
        return null;
    }

    // ---- 20 to 25

    private static void writeUpToForty() {
        MagnetChain x = new MagnetChain();
        for (int k = 1; k <= 40; k++) {
            due.is("write() of byte " + k, x.write(k % 2 == 0 ? 126 : 32), k);
            due.is("told(14) behind it", x.told(LENGTH), k);
        }
        due.is("write() of byte 41", x.write(32), FULL);
        due.is("write() of byte 41 again", x.write(126), FULL);
        due.is("told(14) behind it", x.told(LENGTH), 40);
        due.is("wipe()", x.wipe(), 40);
        due.is("write() behind it", x.write('7'), 1);
        due.is("load() behind it", x.load(), 1);
        due.is("magnets behind it", Chains.magnets(x), "7");
    }

    private static void wipeToNone() {
        MagnetChain x = new MagnetChain();
        due.is("wipe() of none", x.wipe(), 0);
        x.write('1');
        due.is("wipe() of one", x.wipe(), 1);
        due.is("told(14) behind it", x.told(LENGTH), 0);
        due.is("wipe() again", x.wipe(), 0);
        due.is("load() behind it", x.load(), STATE);
        due.is("fault(0) behind it", x.fault(0), 3);
        due.is("fault(1) behind it", x.fault(1), 0);
    }

    private static void loadOneAndTen() {
        MagnetChain x = Chains.still("0!1!2!3!4!5!6!7!0!1!");
        due.is("magnets behind ten", Chains.magnets(x), "0!1!2!3!4!5!6!7!0!1!");
        x.goal(0, 0);
        x.goal(9, 7);
        Chains.type(x, "7");
        due.is("load() of one", x.load(), 1);
        due.is("magnets behind one", Chains.magnets(x), "7");
        due.is("goals behind one", Chains.goals(x), "-");
        Chains.type(x, "7654321076");
        due.is("load() of ten", x.load(), 10);
        due.is("magnets behind ten", Chains.magnets(x), "7654321076");
        due.is("goals behind ten", Chains.goals(x), "----------");
        due.is("load() of the same text again", x.load(), 10);
        due.is("told(14) behind load()", x.told(LENGTH), 10);
    }

    /** "the text, the heat, the counts and the log stay, and the work is counted as for other changes". */
    private static void loadLeaves() {
        MagnetChain x = Chains.inField("0", 0, 100, 0);
        x.push(0, 1);
        due.is("told(2) before load()", x.told(WORK), 6400 - 10000 + 3000);
        Chains.type(x, "1! 7");
        due.is("load()", x.load(), 2);
        due.is("told(2) behind it", x.told(WORK), 6400 - 10000 + 3000 + (10000 - 7000 - 7000));
        due.is("told(3) behind it", x.told(HEAT), 3000 + 3000);
        due.is("told(8) behind it", x.told(TURNS), 2);
        due.is("told(9) behind it", x.told(PUSHES), 1);
        due.is("told(14) behind it", x.told(LENGTH), 4);
        due.is("turns behind it", Chains.turns(x), "1+0-");
        due.is("told(6) behind it", x.told(6), 100);
    }

    private static void faultIs(String behind, MagnetChain x, int kind, int place) {
        due.is("fault(0) behind " + behind, x.fault(0), kind);
        due.is("fault(1) behind " + behind, x.fault(1), place);
    }

    /** "the latest call of load() with the result STATE ... (also if another call of load() came behind it)". */
    private static void theLatestFault() {
        MagnetChain x = new MagnetChain();
        faultIs("no load()", x, NONE, NONE);
        Chains.type(x, "1");
        x.load();
        faultIs("a good load()", x, NONE, NONE);
        x.write('x');
        faultIs("a fault that is not read", x, NONE, NONE);
        x.load();
        faultIs("a fault", x, 1, 1);
        Chains.type(x, "12345670123");
        faultIs("another that is not read", x, 1, 1);
        x.load();
        faultIs("another", x, 2, 10);
        Chains.type(x, "1");
        x.load();
        faultIs("a good load()", x, 2, 10);
        x.begin(3);
        x.undo();
        x.keep(0);
        x.back(0);
        faultIs("begin(), undo() and back()", x, 2, 10);
        x.wipe();
        x.load();
        faultIs("load() of nothing", x, 3, 0);
    }

    private static void keepOneAndTen() {
        MagnetChain x = Chains.still("0!1!2!3!4!5!6!7!0!1!");
        due.is("keep(0) of ten", x.keep(0), 10);
        x.begin(1);
        due.is("keep(1) of one", x.keep(1), 1);
        due.is("back(0)", x.back(0), 10);
        due.is("magnets behind it", Chains.magnets(x), "0!1!2!3!4!5!6!7!0!1!");
        due.is("back(1)", x.back(1), 1);
        due.is("magnets behind it", Chains.magnets(x), "0");
        due.is("keep(0) of one, replacing", x.keep(0), 1);
        x.begin(6);
        due.is("back(0) then", x.back(0), 1);
        x.back(1);
        due.is("keep(1) again", x.keep(1), 1);
    }

    /** "the image stays", whatever is done with what came back, and is kept behind undo(). */
    private static void imagesStay() {
        MagnetChain x = Chains.inField("3", 0, 100, 0);
        x.goal(0, 6);
        x.keep(0);
        String turns = Chains.turns(x);
        String heats = Chains.heats(x);
        int[] told = new int[14];
        for (int what = 0; what < told.length; what++) {
            told[what] = x.told(what);
        }
        for (int k = 0; k < 3; k++) {
            x.push(0, 4);
            x.goal(0, 1);
            x.insert(1, 4);
            x.hold(0, 1);
            for (int what = 0; what <= 3; what++) {
                x.set(what, k + 4);
            }
            x.begin(10);
            x.undo();
            due.is("back(0)", x.back(0), 1);
            for (int what = 0; what < told.length; what++) {
                due.is("told(" + what + ") behind back(0)", x.told(what), told[what]);
            }
            due.is("turns behind back(0)", Chains.turns(x), turns);
            due.is("heats behind back(0)", Chains.heats(x), heats);
            due.is("goals behind back(0)", Chains.goals(x), "6");
        }
        due.is("back(1) with nothing kept", x.back(1), STATE);
    }

    /** "it is recorded behind those that are recorded already": nothing of the history comes back or goes. */
    private static void backIsRecordedBehind() {
        MagnetChain x = new MagnetChain();
        x.begin(2);
        x.keep(0);
        x.begin(3);
        x.begin(5);
        due.is("back(0)", x.back(0), 2);
        due.is("told(15) behind back(0)", x.told(UNDOABLE), 4);
        int[] before = {5, 3, 2, 4};
        for (int k = 0; k < before.length; k++) {
            due.is("undo()", x.undo(), 3 - k);
            due.is("told(0) behind it", x.told(0), before[k]);
        }
        due.is("undo() of no more", x.undo(), STATE);
        due.is("back(0) behind all undone", x.back(0), 2);
        due.is("told(15) behind it", x.told(UNDOABLE), 1);
        due.is("undo() of it", x.undo(), 0);
        due.is("told(0) behind it", x.told(0), 4);
    }
}
