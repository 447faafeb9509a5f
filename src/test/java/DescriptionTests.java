import java.lang.reflect.Field;

/**
 * The boundary cases that the document's description names, a test for each sentence: THE CHAIN, ENERGY, SETTLING,
 * GOALS, THE TEXT, CHANGES. (CONVENTIONS: RefusalTests.) All answers are worked out by hand.
 */
public final class DescriptionTests {
    private static final int BAD = -1000000001, STATE = -1000000002, NONE = -1000000009;
    private static final int COUPLING = 0, DEPTH = 1, STRENGTH = 2, SIDE = 3;
    private static final int ENERGY = 1, WORK = 2, HEAT = 3, TURNS = 8, PUSHES = 9, LOGGED = 10, UNDOABLE = 15;

    /** c(k) of the document. */
    private static final int[] C = {10, 7, 0, -7, -10, -7, 0, 7};

    private static final Due due = new Due();

    public static void main(String[] args) throws ReflectiveOperationException {
        numbersOfMagnets();
        anglesGoRound();
        sidesGoRound();
        couplingAndItsEighth();
        pairsOfEachNumberOfMagnets();
        pairsOfEachPlace();
        endsOfTheField();
        nothingFreedIsNotEnough();
        moreThanTheDepth();
        turnsGoRound();
        turnsThatCost();
        theTurnThatFreesMost();
        theLowestMagnet();
        theDirectionOne();
        heldOnesDoNotTurn();
        latestThirtyTurns();
        twoHundredTurns();
        eachChangeCountsWork();
        eachChangeSettles();
        workOfCouplingAndField();
        firstBooks();
        solvedWithoutGoals();
        signsThatBeginAText();
        signsBehindADigit();
        signsBehindAnExclamation();
        signsBehindABlank();
        signsBehindTenMagnets();
        noMagnetInTheText();
        fortyBytes();
        theFirstFaultCounts();
        blanksWhereTheyCanStand();
        changesThatChangeNothing();
        callsThatAreNoChanges();
        eightStates();
        eachChangeDropsTheOldest();
        undoRestores();
        undoLeaves();
        divisorsAreLookedAt();
        due.end("DescriptionTests");
    }

    // ---- the chain

    /** "There are N magnets, 0 to N - 1 from left to right, with N from 1 to 10". */
    private static void numbersOfMagnets() {
        MagnetChain x = new MagnetChain();
        for (int n = 1; n <= 10; n++) {
            x.begin(n);
            due.is("told(0) of " + n, x.told(0), n);
            due.is("magnet(-1, 0) of " + n, x.magnet(-1, 0), BAD);
            due.is("magnet(0, 0) of " + n, x.magnet(0, 0), 0);
            due.is("magnet(last, 0) of " + n, x.magnet(n - 1, 0), 0);
            due.is("magnet(last, 1) of " + n, x.magnet(n - 1, 1), 0);
            due.is("magnet(N, 0) of " + n, x.magnet(n, 0), BAD);
        }
        x = Chains.still("7654321076");
        due.is("from left to right", Chains.angles(x), "7654321076");
    }

    /** "an angle from 0 to 7": behind 7 comes 0, and 7 stands before 0. */
    private static void anglesGoRound() {
        String[] behind = {"45670 1234", "56701 2345", "67012 3456", "70123 4567",
            "01234 5670", "12345 6701", "23456 7012", "34567 0123"};
        for (int angle = 0; angle <= 7; angle++) {
            String row = behind[angle].replace(" ", "");
            for (int by = -4; by <= 4; by++) {
                MagnetChain x = Chains.still("" + angle);
                x.push(0, by);
                due.is("angle " + angle + " pushed by " + by, x.magnet(0, 0), row.charAt(by + 4) - '0');
            }
        }
    }

    /** "for other k take k modulo 8, from 0 to 7": also where the angle is less than the side. */
    private static void sidesGoRound() {
        for (int angle = 0; angle <= 7; angle++) {
            MagnetChain x = Chains.still(angle + "!");
            x.set(STRENGTH, 100);
            for (int side = 0; side <= 7; side++) {
                int c = C[angle >= side ? angle - side : angle - side + 8];
                x.set(SIDE, side);
                due.is("points(" + side + ") of " + angle, x.points(side), c);
                due.is("energy of " + angle + " in a field to " + side, x.told(ENERGY), -1000 * c);
                due.is("magnet(0, 5) of it", x.magnet(0, 5), -1000 * c);
            }
        }
    }

    // ---- energy

    /** "the coupling K, from 0 to 20", and "K / 8 rounded down". */
    private static void couplingAndItsEighth() {
        int[] eighths = {0, 0, 0, 0, 0, 0, 0, 0, 1, 1, 1, 1, 1, 1, 1, 1, 2, 2, 2, 2, 2};
        MagnetChain x = Chains.still("000");
        for (int coupling = 0; coupling <= 20; coupling++) {
            due.is("set(0, " + coupling + ")", x.set(COUPLING, coupling), 0);
            due.is("energy with it", x.told(ENERGY), -400 * coupling - 200 * eighths[coupling]);
            due.is("magnet(0, 5) with it", x.magnet(0, 5), -200 * coupling - 200 * eighths[coupling]);
            due.is("magnet(1, 5) with it", x.magnet(1, 5), -400 * coupling);
        }
    }

    /** One magnet has no pair, two are neighbors only, and with two magnets between there is no pull. */
    private static void pairsOfEachNumberOfMagnets() {
        int[] energies = {0, -1600, -3400, -5200, -7000, -8800, -10600, -12400, -14200, -16000};
        MagnetChain x = new MagnetChain();
        x.set(COUPLING, 8);
        for (int n = 1; n <= 10; n++) {
            x.begin(n);
            due.is("energy of " + n, x.told(ENERGY), energies[n - 1]);
        }
        x = Chains.loaded("0!2!2!0!", 8, 2000);
        // U(0, 2) = U(2, 0) = 0, U(2, 2) = 100: of 0 and 0, with two between them, nothing is counted.
        due.is("energy of 0220", x.told(ENERGY), 8 * 100);
        due.is("magnet(0, 5) of 0220", x.magnet(0, 5), 0);
        due.is("magnet(1, 5) of 0220", x.magnet(1, 5), 800);
    }

    private static void pairsOfEachPlace() {
        int[] parts = {-1800, -3400, -3600, -3600, -3600, -3600, -3600, -3600, -3400, -1800};
        MagnetChain x = new MagnetChain();
        x.begin(10);
        x.set(COUPLING, 8);
        for (int i = 0; i < 10; i++) {
            due.is("magnet(" + i + ", 5) of ten", x.magnet(i, 5), parts[i]);
        }
        x.begin(2);
        due.is("magnet(0, 5) of two", x.magnet(0, 5), -1600);
        due.is("magnet(1, 5) of two", x.magnet(1, 5), -1600);
        x.begin(1);
        due.is("magnet(0, 5) of one", x.magnet(0, 5), 0);
        due.is("magnet(0, 3) of one", x.magnet(0, 3), 0);
        due.is("magnet(0, 4) of one", x.magnet(0, 4), 0);
    }

    /** "a strength h from 0 to 100 (0 at first)". */
    private static void endsOfTheField() {
        MagnetChain x = Chains.still("0!4!");
        due.is("energy without a field", x.told(ENERGY), 0);
        x.remove(1);
        x.set(STRENGTH, 1);
        due.is("energy with the strength 1", x.told(ENERGY), -100);
        x.set(STRENGTH, 100);
        due.is("energy with the strength 100", x.told(ENERGY), -10000);
        x.set(SIDE, 4);
        due.is("energy against the field", x.told(ENERGY), 10000);
        x.set(SIDE, 2);
        due.is("energy across the field", x.told(ENERGY), 0);
        x.set(STRENGTH, 0);
        due.is("energy with the strength 0", x.told(ENERGY), 0);
    }

    // ---- settling

    /** "if it sets free more than D": with the depth 0 a turn that frees nothing is not done. */
    private static void nothingFreedIsNotEnough() {
        MagnetChain x = Chains.still("0246");
        due.is("set(1, 0) where nothing is freed", x.set(DEPTH, 0), 0);
        due.is("magnet(3, 3) there", x.magnet(3, 3), 0);
        due.is("push() there", x.push(3, 4), 0);
        due.is("angles there", Chains.angles(x), "0242");
        x = Chains.still("1");
        x.set(DEPTH, 0);
        due.is("set(2, 1) where 30 are freed", x.set(STRENGTH, 1), 1);
        due.is("angle there", x.magnet(0, 0), 0);
    }

    private static void moreThanTheDepth() {
        int[] strengths = {1, 1, 1, 66, 66, 66, 66, 67, 67, 100};
        int[] depths = {29, 30, 31, 1979, 1980, 1981, 2000, 2000, 1999, 2000};
        int[] turns = {1, 0, 0, 1, 0, 0, 0, 1, 1, 1};
        for (int k = 0; k < turns.length; k++) {
            MagnetChain x = Chains.still("1");
            x.set(DEPTH, depths[k]);
            String what = "30 * " + strengths[k] + " freed, depth " + depths[k];
            due.is(what, x.set(STRENGTH, strengths[k]), turns[k]);
            due.is("heat, " + what, x.told(HEAT), turns[k] * 30 * strengths[k]);
            due.is("angle, " + what, x.magnet(0, 0), 1 - turns[k]);
        }
    }

    /** "1 (its angle becomes one greater, 0 behind 7) or -1 (one less, 7 behind 0)". */
    private static void turnsGoRound() {
        MagnetChain x = Chains.inField("7", 0, 1, 0);
        due.is("7 in a field to 0", Chains.angles(x), "0");
        due.is("its turns", Chains.turns(x), "0+");
        x = Chains.inField("0", 0, 1, 7);
        due.is("0 in a field to 7", Chains.angles(x), "7");
        due.is("its turns", Chains.turns(x), "0-");
        x = Chains.inField("6", 0, 1, 1);
        due.is("6 in a field to 1", Chains.angles(x), "1");
        due.is("its turns", Chains.turns(x), "0+0+0+");
        x = Chains.inField("1", 0, 1, 6);
        due.is("1 in a field to 6", Chains.angles(x), "6");
        due.is("its turns", Chains.turns(x), "0-0-0-");
        x = Chains.inField("7!0!", 0, 1, 0);
        due.is("what 7 to 0 sets free", x.magnet(0, 3), 30);
        due.is("what 7 to 6 sets free", x.magnet(0, 4), -70);
        due.is("what 0 to 1 sets free", x.magnet(1, 3), -30);
        due.is("what 0 to 7 sets free", x.magnet(1, 4), -30);
    }

    /** "What a turn sets free ... (it can be negative)", and is told "whether it is held or not". */
    private static void turnsThatCost() {
        for (String text : new String[] {"0", "0!"}) {
            MagnetChain x = Chains.still(text);
            due.is("magnet(0, 3) of " + text + " in no field", x.magnet(0, 3), 0);
            x.set(STRENGTH, 100);
            due.is("magnet(0, 3) of " + text, x.magnet(0, 3), -3000);
            due.is("magnet(0, 4) of " + text, x.magnet(0, 4), -3000);
        }
        MagnetChain x = Chains.still("4!");
        x.set(STRENGTH, 100);
        due.is("magnet(0, 3) of 4!", x.magnet(0, 3), 3000);
        due.is("magnet(0, 4) of 4!", x.magnet(0, 4), 3000);
        due.is("no turn of a held one", x.told(TURNS), 0);
    }

    private static void theTurnThatFreesMost() {
        MagnetChain x = Chains.inField("12", 0, 1, 0);
        due.is("turns in 12", Chains.turns(x), "1-0-1-");
        x = Chains.inField("1111111112", 0, 1, 0);
        due.is("turns in 1111111112", Chains.turns(x), "9-8-7-6-5-4-3-2-1-0-9-");
        x = Chains.inField("2111111111", 0, 1, 0);
        due.is("turns in 2111111111", Chains.turns(x), "9-8-7-6-5-4-3-2-1-0-0-");
        // Behind 31!: U(3, 1) = 147, U(4, 1) = 140, U(2, 1) = 70, U(1, 1) = -47, U(0, 1) = -140, U(7, 1) = -147.
        x = Chains.loaded("31!", 1, 0);
        due.is("turns in 31!", Chains.turns(x), "0-0-0-0-");
        int[] heats = {7, 93, 117, 77};
        for (int k = 0; k < 4; k++) {
            due.is("log(" + k + ", 2) in 31!", x.log(k, 2), heats[k]);
        }
        due.is("angles of 31!", Chains.magnets(x), "71!");
    }

    private static void theLowestMagnet() {
        due.is("turns in 77", Chains.turns(Chains.inField("77", 0, 1, 0)), "1+0+");
        due.is("turns in 17", Chains.turns(Chains.inField("17", 0, 1, 0)), "1+0-");
        due.is("turns in 71", Chains.turns(Chains.inField("71", 0, 1, 0)), "1-0+");
        due.is("turns in 1000000007", Chains.turns(Chains.inField("1000000007", 0, 1, 0)), "9+0-");
        due.is("turns in 7000000001", Chains.turns(Chains.inField("7000000001", 0, 1, 0)), "9-0+");
        due.is("turns in 7!17", Chains.turns(Chains.inField("7!17", 0, 1, 0)), "2+1-");
    }

    private static void theDirectionOne() {
        MagnetChain x = Chains.inField("4", 0, 1, 0);
        due.is("turns of 4 in a field to 0", Chains.turns(x), "0+0+0+0+");
        due.is("heat of them", x.told(HEAT), 30 + 70 + 70 + 30);
        x = Chains.inField("0", 0, 1, 4);
        due.is("turns of 0 in a field to 4", Chains.turns(x), "0+0+0+0+");
        x = Chains.inField("44", 0, 1, 0);
        due.is("turns of 44", Chains.turns(x), "1+1+1+1+0+0+0+0+");
        due.is("turns of 3", Chains.turns(Chains.inField("3", 0, 1, 0)), "0-0-0-");
        due.is("turns of 5", Chains.turns(Chains.inField("5", 0, 1, 0)), "0+0+0+");
    }

    private static void heldOnesDoNotTurn() {
        MagnetChain x = Chains.inField("4!43!", 0, 1, 0);
        due.is("turns of 4!43!", Chains.turns(x), "1+1+1+1+");
        due.is("4!43! behind them", Chains.magnets(x), "4!03!");
        x = Chains.inField("4!4!4!4!4!4!4!4!4!4!", 0, 100, 0);
        due.is("turns of ten held ones", x.told(TURNS), 0);
        x.hold(9, 0);
        due.is("turns of the last, not held", Chains.turns(x), "9+9+9+9+");
    }

    /** "the log keeps the latest 30 turns", also when one settling does more. */
    private static void latestThirtyTurns() {
        MagnetChain x = Chains.inField("00000003", 0, 100, 4);
        logHas("00000003", x, 29, 0, 3000);
        x = Chains.inField("00000002", 0, 100, 4);
        logHas("00000002", x, 30, 7, 7000);
        x = Chains.inField("300000002", 0, 100, 4);
        due.is("told(8) of 300000002", x.told(TURNS), 31);
        logHas("300000002", x, 30, 0, 3000);
        x = Chains.inField("0000000000", 0, 100, 4);
        due.is("told(8) of ten", x.told(TURNS), 40);
        due.is("told(3) of ten", x.told(HEAT), 200000);
        logHas("ten", x, 30, 2, 7000);
        due.is("log(0, 0) of ten", x.log(0, 0), 9);
        due.is("log(0, 2) of ten", x.log(0, 2), 3000);
        x.set(STRENGTH, 1);
        x.set(SIDE, 5);
        due.is("told(8) of ten behind ten more", x.told(TURNS), 50);
        due.is("told(3) of ten behind ten more", x.told(HEAT), 200000 + 10 * 30);
        logHas("ten, behind ten more", x, 30, 5, 3000);
    }

    /** So many turns are in the log, the oldest of them this magnet's, with this heat. */
    private static void logHas(String name, MagnetChain x, int turns, int magnet, int heat) {
        due.is("told(10) of " + name, x.told(LOGGED), turns);
        due.is("the oldest magnet in the log of " + name, x.log(turns - 1, 0), magnet);
        due.is("the oldest heat in the log of " + name, x.log(turns - 1, 2), heat);
        due.is("log behind the oldest of " + name, x.log(turns, 0), NONE);
    }

    /**
     * "or 200 turns were done in this settling". No chain is known that gets there (the longest settling
     * that a search of whole chains of ten found has some 60 turns); so the depth is made negative from behind:
     * then there is always a turn that frees more.
     */
    private static void twoHundredTurns() throws ReflectiveOperationException {
        MagnetChain x = new MagnetChain();
        setFromBehind(x, "depth", -1000000);
        due.is("moved(0, 1) without an end", x.moved(0, 1), 200);
        due.is("loop(1, 1, 3) without an end", x.loop(1, 1, 3), 6 * 200);
        due.is("push(0, 1) without an end", x.push(0, 1), 200);
        due.is("told(8)", x.told(TURNS), 200);
        due.is("told(10)", x.told(LOGGED), 30);
        due.is("set(2, 1) without an end", x.set(STRENGTH, 1), 200);
        due.is("told(8) behind it", x.told(TURNS), 400);
        x.hold(0, 1);
        due.is("told(8) behind hold(0, 1)", x.told(TURNS), 600);
        due.is("set(1, 2000) ends it", x.set(DEPTH, 2000), 0);
        longestSettling();
    }

    /** The longest settling of ten magnets that is known: a limit below the 200 would cut it off. */
    private static void longestSettling() {
        MagnetChain x = Chains.inField("1", 0, 8, 1);
        x.set(COUPLING, 5);
        due.is("told(8) before the long settling", x.told(TURNS), 0);
        Chains.type(x, "6575657565");
        x.load();
        due.is("told(8) of the long settling", x.told(TURNS), 61);
        due.is("told(10) of the long settling", x.told(LOGGED), 30);
        due.is("what it leaves to do", x.set(COUPLING, 5), 0);
    }

    private static void setFromBehind(MagnetChain x, String name, int value) throws ReflectiveOperationException {
        Object state = valueOf(x, "present");
        Object chain = valueOf(state, "chain");
        Field field = chain.getClass().getDeclaredField(name);
        field.setAccessible(true);
        field.setInt(chain, value);
    }

    private static Object valueOf(Object x, String name) throws ReflectiveOperationException {
        Field field = x.getClass().getDeclaredField(name);
        field.setAccessible(true);
        return field.get(x);
    }

    private interface Change {
        int on(MagnetChain x);
    }

    /** "Each change (except undo() and back()) does first what its method says", then the work is added. */
    private static void eachChangeCountsWork() {
        Change[] changes = {x -> x.begin(9), x -> x.insert(0, 4), x -> x.remove(0), x -> x.shed(), x -> x.reverse(),
            x -> x.hold(0, 1), x -> x.push(0, 4), x -> x.set(COUPLING, 7), x -> x.goal(0, 1), x -> x.load(),
            x -> x.undo(), x -> x.back(0)};
        // U(0, 0) = -200, U(0, 4) = 200, U(0, 3) = 140, U(4, 1) = 140: at first 003 has -200 + 140 = -60.
        int[] works = {0, 200, 200, -140, 0, 0, 400 - 60 + 60, 6 * -60, 0, 60 + 140, 0, 0};
        for (int k = 0; k < changes.length; k++) {
            MagnetChain x = Chains.loaded("003", 1, 2000);
            x.keep(0);
            x.set(DEPTH, 1999);
            Chains.type(x, "41");
            int before = x.told(WORK);
            due.is("told(1) before change " + k, x.told(ENERGY), -60);
            changes[k].on(x);
            due.is("work of change " + k, x.told(WORK) - (k == 0 ? 0 : before), works[k]);
        }
    }

    /** "then the chain settles": without an end, as the depth is made negative from behind. */
    private static void eachChangeSettles() throws ReflectiveOperationException {
        Change[] changes = {x -> x.begin(9), x -> x.insert(0, 4), x -> x.remove(0), x -> x.shed(), x -> x.reverse(),
            x -> x.hold(0, 1), x -> x.push(0, 4), x -> x.set(COUPLING, 7), x -> x.goal(0, 1), x -> x.load(),
            x -> x.undo(), x -> x.back(0), x -> x.keep(1), x -> x.wipe(), x -> x.write('x')};
        for (int k = 0; k < changes.length; k++) {
            MagnetChain x = Chains.loaded("003", 1, 2000);
            x.keep(0);
            setFromBehind(x, "depth", -1000000);
            changes[k].on(x);
            due.is("turns of change " + k, x.told(TURNS), k < 10 ? 200 : 0);
        }
    }

    /** "the energy behind this minus the energy before it (also by another coupling or field) ... can be negative". */
    private static void workOfCouplingAndField() {
        MagnetChain x = new MagnetChain();
        int[][] sets = {{COUPLING, 20}, {COUPLING, 0}, {STRENGTH, 100}, {SIDE, 1}, {SIDE, 0}, {STRENGTH, 0}, {DEPTH, 0}};
        x.set(DEPTH, 2000);
        for (int i = 0; i < 4; i++) {
            x.hold(i, 1);
        }
        int[] works = {-6400, 6400, 6400 - 40000, 6400 - 28000, 6400 - 40000, 6400, 6400};
        for (int k = 0; k < works.length; k++) {
            due.is("turns of set " + k, x.set(sets[k][0], sets[k][1]), 0);
            due.is("work behind set " + k, x.told(WORK), works[k]);
        }
        x.hold(0, 0);
        x.goal(0, 7);
        due.is("work behind hold() and goal()", x.told(WORK), 6400);
        due.is("heat behind them", x.told(HEAT), 0);
    }

    /** "Heat, work, the counts of turns and pushes are 0 at first, and the log is empty." */
    private static void firstBooks() {
        MagnetChain x = new MagnetChain();
        for (int what : new int[] {WORK, HEAT, TURNS, PUSHES, LOGGED}) {
            due.is("told(" + what + ") at first", x.told(what), 0);
        }
        for (int what = 0; what <= 2; what++) {
            due.is("log(0, " + what + ") at first", x.log(0, what), NONE);
            due.is("log(29, " + what + ") at first", x.log(29, what), NONE);
        }
    }

    // ---- goals

    /** "A chain is solved if each magnet with a goal has this angle": so it is without any goal. */
    private static void solvedWithoutGoals() {
        MagnetChain x = Chains.still("0707070707");
        due.is("goals at first", Chains.goals(x), "----------");
        due.is("told(12) without goals", x.told(12), 0);
        due.is("solve(0, 0) without goals", x.solve(0, 0), 0);
        for (int i = 0; i < 10; i++) {
            x.goal(i, i % 2 == 0 ? 0 : 7);
        }
        due.is("told(12) with all goals", x.told(12), 0);
        due.is("solve(0, 0) with all goals", x.solve(0, 0), 0);
        for (int i = 0; i < 10; i++) {
            x.goal(i, i % 2 == 0 ? 7 : 0);
            due.is("told(12) with wrong goals", x.told(12), i + 1);
            due.is("solve(0, 0) with wrong goals", x.solve(0, 0), NONE);
        }
        for (int i = 0; i < 9; i++) {
            x.goal(i, NONE);
        }
        due.is("told(12) with one wrong goal", x.told(12), 1);
        due.is("solve(0, 0) with one wrong goal", x.solve(0, 0), NONE);
        x.goal(9, NONE);
        due.is("told(12) with none again", x.told(12), 0);
        due.is("solve(0, 0) with none again", x.solve(0, 0), 0);
    }

    // ---- the text

    /** Loads a text; a fault is told as its kind and place, otherwise the magnets are. */
    private static String read(String text) {
        MagnetChain x = Chains.still("5");
        Chains.type(x, text);
        int n = x.load();
        if (n == STATE) {
            due.is("magnets behind a fault in \"" + text + "\"", Chains.magnets(x), "5");
            return "fault " + x.fault(0) + " at " + x.fault(1);
        }
        due.is("fault(0) behind \"" + text + "\"", x.fault(0), NONE);
        due.is("fault(1) behind \"" + text + "\"", x.fault(1), NONE);
        due.is("told(0) behind \"" + text + "\"", x.told(0), n);
        return Chains.magnets(x);
    }

    private static void reads(String text, String want) {
        due.is("reading \"" + text + "\"", read(text), want);
    }

    private static boolean isDigit(char sign) {
        return "01234567".indexOf(sign) >= 0;
    }

    /** Each byte that can be written, as the first of a text. */
    private static void signsThatBeginAText() {
        for (char sign = 32; sign <= 126; sign++) {
            reads("" + sign, isDigit(sign) ? "" + sign : sign == ' ' ? "fault 3 at 1" : "fault 1 at 0");
        }
    }

    private static void signsBehindADigit() {
        for (char sign = 32; sign <= 126; sign++) {
            boolean stands = isDigit(sign) || sign == ' ' || sign == '!';
            reads("6" + sign, !stands ? "fault 1 at 1" : sign == ' ' ? "6" : "6" + sign);
        }
    }

    private static void signsBehindAnExclamation() {
        for (char sign = 32; sign <= 126; sign++) {
            boolean stands = isDigit(sign) || sign == ' ';
            reads("2!" + sign, !stands ? "fault 1 at 2" : sign == ' ' ? "2!" : "2!" + sign);
        }
    }

    private static void signsBehindABlank() {
        for (char sign = 32; sign <= 126; sign++) {
            boolean stands = isDigit(sign) || sign == ' ';
            reads("7 " + sign, !stands ? "fault 1 at 2" : sign == ' ' ? "7" : "7" + sign);
            reads("7! " + sign, !stands ? "fault 1 at 3" : sign == ' ' ? "7!" : "7!" + sign);
        }
    }

    /** "an eleventh magnet (the position of its digit)": what is no digit from 0 to 7 is none. */
    private static void signsBehindTenMagnets() {
        String ten = "0123456701";
        for (char sign = 32; sign <= 126; sign++) {
            String behind = sign == ' ' ? ten : sign == '!' ? ten + "!" : "fault 1 at 10";
            reads(ten + sign, isDigit(sign) ? "fault 2 at 10" : behind);
            reads(ten + " " + sign, isDigit(sign) ? "fault 2 at 11" : sign == ' ' ? ten : "fault 1 at 11");
            reads(ten + "!" + sign, isDigit(sign) ? "fault 2 at 11" : sign == ' ' ? ten + "!" : "fault 1 at 11");
        }
    }

    /** "3 the text ends without a magnet (the length of the text)". */
    private static void noMagnetInTheText() {
        StringBuilder blanks = new StringBuilder();
        for (int length = 0; length <= 40; length++) {
            reads(blanks.toString(), "fault 3 at " + length);
            blanks.append(' ');
        }
    }

    /** "The text has at most 40 bytes ... and is empty at first." */
    private static void fortyBytes() {
        due.is("told(14) at first", new MagnetChain().told(14), 0);
        String blanks = "                                       ";
        reads(blanks + "3", "3");
        reads("3" + blanks, "3");
        reads(blanks.substring(1) + "3!", "3!");
        reads(blanks.substring(9) + "0123456701", "0123456701");
        reads("0!1!2!3!4!5!6!7!0!1!                    ", "0!1!2!3!4!5!6!7!0!1!");
        reads("0!  1!  2!  3!  4!  5!  6!  7!  0!  1!  ", "0!1!2!3!4!5!6!7!0!1!");
        reads("0!  1!  2!  3!  4!  5!  6!  7!  0!  1! 7", "fault 2 at 39");
        reads(blanks + "!", "fault 1 at 39");
        reads(blanks + "8", "fault 1 at 39");
        reads("1111111111111111111111111111111111111111", "fault 2 at 10");
    }

    /** "The text is read from left to right, and the first fault counts." */
    private static void theFirstFaultCounts() {
        reads("x00000000000", "fault 1 at 0");
        reads("0000000000x0", "fault 1 at 10");
        reads("00000000000x", "fault 2 at 10");
        reads("00000000000!!", "fault 2 at 10");
        reads("  x", "fault 1 at 2");
        reads(" ! ", "fault 1 at 1");
        reads("!!", "fault 1 at 0");
        reads("1!!!", "fault 1 at 2");
        reads("1x2y", "fault 1 at 1");
    }

    private static void blanksWhereTheyCanStand() {
        reads(" 1", "1");
        reads("1 ", "1");
        reads("1 2", "12");
        reads("12", "12");
        reads("  1!   2  ", "1!2");
        reads("1! 2!", "1!2!");
        reads("1 !", "fault 1 at 2");
    }

    // ---- changes

    /** "Some methods are called changes below (also if they change nothing)." */
    private static void changesThatChangeNothing() {
        MagnetChain x = new MagnetChain();
        Chains.type(x, "0000");
        x.keep(0);
        int[] answers = {x.begin(4), x.shed(), x.reverse(), x.reverse(), x.hold(0, 0), x.set(COUPLING, 10), x.goal(0, NONE)};
        int[] wants = {4, 0, 4, 4, 0, 0, NONE};
        for (int k = 0; k < wants.length; k++) {
            due.is("answer " + k, answers[k], wants[k]);
        }
        due.is("told(15) behind seven of them", x.told(UNDOABLE), 7);
        x.load();
        due.is("told(15) behind load()", x.told(UNDOABLE), 8);
        for (int k = 7; k >= 5; k--) {
            due.is("undo()", x.undo(), k);
        }
        x.back(0);
        due.is("told(15) behind back(0)", x.told(UNDOABLE), 6);
        x.push(0, 1);
        due.is("told(15) behind a push that springs back", x.told(UNDOABLE), 7);
    }

    private static void callsThatAreNoChanges() {
        MagnetChain x = new MagnetChain();
        x.push(0, 2);
        x.told(0);
        x.magnet(0, 0);
        x.log(0, 0);
        x.points(0);
        x.mean();
        x.moved(0, 1);
        x.loop(10, 10, 0);
        x.solve(1, 0);
        x.write('4');
        x.wipe();
        x.fault(0);
        x.keep(0);
        x.load();
        due.is("told(15) behind one change", x.told(UNDOABLE), 1);
        due.is("undo()", x.undo(), 0);
        due.is("told(9) behind it", x.told(PUSHES), 0);
    }

    /** "A history of at most 8 states is kept ... the oldest one is dropped". */
    private static void eightStates() {
        for (int changes = 0; changes <= 20; changes++) {
            MagnetChain x = new MagnetChain();
            for (int k = 1; k <= changes; k++) {
                x.set(DEPTH, 1000 + k);
                due.is("told(15) behind " + k + " changes", x.told(UNDOABLE), Math.min(k, 8));
            }
            int left = Math.min(changes, 8);
            for (int k = left - 1; k >= 0; k--) {
                int depth = changes - left + k;
                due.is("undo() with " + k + " left", x.undo(), k);
                due.is("told(15) then", x.told(UNDOABLE), k);
                due.is("told(5) then", x.told(5), depth == 0 ? 300 : 1000 + depth);
            }
            int last = x.told(5);
            due.is("undo() with none left", x.undo(), STATE);
            due.is("told(5) then", x.told(5), last);
        }
    }

    /** Each of the eleven methods that are changes drops the oldest of eight states. */
    private static void eachChangeDropsTheOldest() {
        Change[] changes = {x -> x.begin(3), x -> x.insert(0, 0), x -> x.remove(0), x -> x.shed(), x -> x.reverse(),
            x -> x.hold(0, 1), x -> x.push(0, 1), x -> x.set(SIDE, 1), x -> x.goal(0, 1), x -> x.load(), x -> x.back(1)};
        for (int k = 0; k < changes.length; k++) {
            MagnetChain x = new MagnetChain();
            x.keep(1);
            x.write('1');
            for (int depth = 1; depth <= 8; depth++) {
                x.set(DEPTH, depth * 100);
            }
            int got = changes[k].on(x);
            due.holds("change " + k + " is taken, answered " + got, got >= 0 || got == NONE);
            due.is("told(15) behind change " + k, x.told(UNDOABLE), 8);
            for (int depth = 8; depth >= 1; depth--) {
                due.is("undo() behind change " + k, x.undo(), depth - 1);
                due.is("told(5) behind change " + k, x.told(5), depth * 100);
                due.is("magnets behind change " + k, Chains.magnets(x), "0000");
            }
            due.is("undo() of no more behind change " + k, x.undo(), STATE);
        }
    }

    /** "undo() removes the latest state and restores it, also heat, work, counts and log." */
    private static void undoRestores() {
        MagnetChain x = Chains.inField("300000002", 0, 100, 4);
        x.goal(8, 7);
        x.hold(8, 1);
        x.push(0, 4);
        String turns = Chains.turns(x);
        String heats = Chains.heats(x);
        int[] told = new int[14];
        for (int what = 0; what < told.length; what++) {
            told[what] = x.told(what);
        }
        x.begin(1);
        x.set(COUPLING, 19);
        x.set(DEPTH, 1);
        x.set(STRENGTH, 3);
        x.set(SIDE, 2);
        x.push(0, 3);
        x.goal(0, 0);
        for (int k = 0; k < 7; k++) {
            x.undo();
        }
        for (int what = 0; what < told.length; what++) {
            due.is("told(" + what + ") behind undo()", x.told(what), told[what]);
        }
        due.is("turns behind undo()", Chains.turns(x), turns);
        due.is("heats behind undo()", Chains.heats(x), heats);
        due.is("its length", turns.length(), 60);
        due.is("magnets behind undo()", Chains.magnets(x), "444444444!");
        due.is("goals behind undo()", Chains.goals(x), "--------7");
    }

    /** "records everything before it, except the text, the latest fault and the images". */
    private static void undoLeaves() {
        MagnetChain x = new MagnetChain();
        x.begin(2);
        x.write('1');
        x.write('x');
        x.load();
        x.keep(0);
        x.begin(3);
        x.keep(1);
        x.write('y');
        x.undo();
        x.undo();
        due.is("told(0) behind undo()", x.told(0), 4);
        due.is("told(14) behind undo()", x.told(14), 3);
        due.is("fault(0) behind undo()", x.fault(0), 1);
        due.is("fault(1) behind undo()", x.fault(1), 1);
        due.is("back(0) behind undo()", x.back(0), 2);
        due.is("back(1) behind undo()", x.back(1), 3);
        due.is("undo() of back(1)", x.undo(), 1);
        due.is("told(0) behind it", x.told(0), 2);
        due.is("undo() of back(0)", x.undo(), 0);
        due.is("told(0) behind it", x.told(0), 4);
        x.wipe();
        x.begin(5);
        x.undo();
        due.is("told(14) behind wipe() and undo()", x.told(14), 0);
    }

    /** LANGUAGE.md, rules 3 and 7: no division answers NaN, even if the chain is made empty from behind. */
    private static void divisorsAreLookedAt() throws ReflectiveOperationException {
        MagnetChain x = new MagnetChain();
        setFromBehind(x, "size", 0);
        due.is("mean() of no magnet", x.mean(), 0.0f);
        due.is("loop(1, 0, 0)", x.loop(1, 0, 0), BAD);
    }
}
