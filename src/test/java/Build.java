/** What the tests by hand make their designs with. */
final class Build {
    static final int NONE = GraphCompare.NONE;

    private Build() {
    }

    /** An object with so many nets on both sides. */
    static GraphCompare withNets(int count) {
        GraphCompare x = new GraphCompare();
        for (int i = 0; i < count; i++) {
            x.net(0, 0);
            x.net(1, 0);
        }
        return x;
    }

    /** A device with its pins on these nets: its number. */
    static int add(GraphCompare x, int side, int kind, double size, int... nets) {
        int d = x.device(side, kind, size);
        for (int k = 0; k < nets.length; k++) {
            x.pin(side, d, k, nets[k]);
        }
        return d;
    }

    /** A device on each side with its pins on these nets. */
    static void addBoth(GraphCompare x, int kind, double size, int... nets) {
        add(x, 0, kind, size, nets);
        add(x, 1, kind, size, nets);
    }

    /** The rows of all differences, as one text. */
    static String allDifferences(GraphCompare x) {
        StringBuilder text = new StringBuilder();
        for (int k = 0; k < 100; k++) {
            final int row = k;
            if (Check.answer(() -> x.differs(row, 0)).startsWith("Index")) {
                break;
            }
            for (int what = 0; what < 4; what++) {
                text.append(x.differs(k, what)).append(what < 3 ? "," : ";");
            }
        }
        return text.toString();
    }

    /** With what the first so many devices of a side are paired, as one text. */
    static String devicePairs(GraphCompare x, int side, int count) {
        StringBuilder text = new StringBuilder();
        for (int d = 0; d < count; d++) {
            text.append(x.match(side, d)).append(' ');
        }
        return text.toString().trim();
    }

    /** With what the first so many nets of side 0 are paired, as one text. */
    static String netPairs(GraphCompare x, int count) {
        StringBuilder text = new StringBuilder();
        for (int n = 0; n < count; n++) {
            text.append(x.netMatch(n)).append(' ');
        }
        return text.toString().trim();
    }

    /** What run() answers once side 1 has this device, too: 1 if side 0 has one of that size. */
    static int runAgainst(GraphCompare x, int kind, double size, int... nets) {
        add(x, 1, kind, size, nets);
        return x.run(2000);
    }
}
