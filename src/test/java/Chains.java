/** Chains to start from, and what stands in them as a text. */
final class Chains {
    static final int COUPLING = 0, DEPTH = 1, STRENGTH = 2, SIDE = 3;

    private Chains() {
    }

    static void type(MagnetChain x, String text) {
        x.wipe();
        for (int i = 0; i < text.length(); i++) {
            x.write(text.charAt(i));
        }
    }

    /** A chain that never turns of itself while there is no field, so that what is put in stays as it is. */
    static MagnetChain still(String text) {
        MagnetChain x = new MagnetChain();
        x.set(COUPLING, 0);
        x.set(DEPTH, 2000);
        type(x, text);
        x.load();
        return x;
    }

    static MagnetChain loaded(String text, int coupling, int depth) {
        MagnetChain x = still(text);
        x.set(COUPLING, coupling);
        x.set(DEPTH, depth);
        return x;
    }

    /** A chain in a field, to which its magnets have turned if they can. */
    static MagnetChain inField(String text, int depth, int strength, int side) {
        MagnetChain x = still(text);
        x.set(SIDE, side);
        x.set(DEPTH, depth);
        x.set(STRENGTH, strength);
        return x;
    }

    static String angles(MagnetChain x) {
        StringBuilder told = new StringBuilder();
        for (int i = 0; i < x.told(0); i++) {
            told.append(x.magnet(i, 0));
        }
        return told.toString();
    }

    /** The magnets as load() reads them. */
    static String magnets(MagnetChain x) {
        StringBuilder told = new StringBuilder();
        for (int i = 0; i < x.told(0); i++) {
            told.append(x.magnet(i, 0)).append(x.magnet(i, 1) == 1 ? "!" : "");
        }
        return told.toString();
    }

    /** The goals of the magnets, a minus where there is none. */
    static String goals(MagnetChain x) {
        StringBuilder told = new StringBuilder();
        for (int i = 0; i < x.told(0); i++) {
            int goal = x.magnet(i, 2);
            told.append(goal == MagnetChain.NONE ? "-" : "" + goal);
        }
        return told.toString();
    }

    /** The magnets and directions of the log, from the latest turn on. */
    static String turns(MagnetChain x) {
        StringBuilder told = new StringBuilder();
        for (int k = 0; k < x.told(10); k++) {
            told.append(x.log(k, 0)).append(x.log(k, 1) == 1 ? '+' : '-');
        }
        return told.toString();
    }

    /** What the turns in the log have set free, from the latest one on. */
    static String heats(MagnetChain x) {
        StringBuilder told = new StringBuilder();
        for (int k = 0; k < x.told(10); k++) {
            told.append(x.log(k, 2)).append(' ');
        }
        return told.toString();
    }
}
