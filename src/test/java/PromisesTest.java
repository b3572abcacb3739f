/** Each promise of the document by hand: ordinary inputs, the edges it names, wrong inputs. */
public final class PromisesTest {
    private static final int NONE = GraphCompare.NONE;

    private PromisesTest() {
    }

    public static void main(String[] args) {
        newObject();
        nets();
        devices();
        pins();
        swaps();
        shares();
        ports();
        parallelJoins();
        seriesJoins();
        wrongJoins();
        runs();
        searches();
        limitsOfTries();
        fullSides();
        longChains();
        matches();
        netMatches();
        differences();
        differencesOfClasses();
        rounds();
        tried();
        testedPairs();
        testedAfterJoins();
        throwingChangesNothing();
        Check.finish("PromisesTest");
    }

    private static void newObject() {
        GraphCompare x = new GraphCompare();
        Check.same("1: NONE", -1, GraphCompare.NONE);
        Check.same("1: rounds", 0, x.rounds());
        Check.same("1: tried", 0, x.tried());
        Check.same("1: tested", false, x.tested());
        Check.outOfBounds("1: no difference", () -> x.differs(0, 0));
        Check.outOfBounds("1: no device", () -> x.match(0, 0));
        Check.outOfBounds("1: no net", () -> x.netMatch(0));
        Check.same("1: first net", 0, x.net(1, 0));
        Check.same("1: first device", 0, x.device(1, 0, 1));
        Check.same("1: nothing to join", 0, x.join(0, 0));
    }

    private static void nets() {
        GraphCompare x = new GraphCompare();
        for (int i = 0; i < 40; i++) {
            Check.same("2: number", i, x.net(0, i == 0 ? Integer.MAX_VALUE : 0));
        }
        Check.badState("2: 41st", () -> x.net(0, 0));
        Check.badState("2: 41st with a bad name", () -> x.net(0, -1));
        Check.outOfBounds("2: side 2", () -> x.net(2, -1));
        Check.outOfBounds("2: side -1", () -> x.net(-1, 0));
        Check.badArgument("2: name", () -> x.net(1, -1));
        Check.same("2: the other side", 0, x.net(1, 0));
    }

    private static void devices() {
        GraphCompare x = new GraphCompare();
        Check.same("3: tiny", 0, x.device(0, 0, 4.9e-324));
        Check.same("3: greatest", 1, x.device(0, 7, 1000000.0));
        double[] wrong = {0.0, -0.0, -1.0, 1000000.0001, 1.0 / 0.0, -1.0 / 0.0, 0.0 / 0.0};
        for (double size : wrong) {
            Check.badArgument("3: size " + size, () -> x.device(0, 0, size));
        }
        Check.outOfBounds("3: kind 8", () -> x.device(0, 8, 0.0));
        Check.outOfBounds("3: kind -1", () -> x.device(0, -1, 1.0));
        Check.outOfBounds("3: side", () -> x.device(2, 0, 1.0));
        Check.same("3: wrong ones took no number", 2, x.device(0, 0, 1.0));
        for (int i = 3; i < 30; i++) {
            Check.same("3: number", i, x.device(0, 3, 1.0));
        }
        Check.badState("3: 31st", () -> x.device(0, 0, 1.0));
        Check.badState("3: 31st with a bad size", () -> x.device(0, 0, 0.0));
        Check.outOfBounds("3: 31st with a bad kind", () -> x.device(0, 8, 0.0));
        Check.same("3: many are joined", 3, x.join(0, 0));
        Check.badState("3: those that are gone count", () -> x.device(0, 0, 1.0));
        Check.same("3: the other side", 0, x.device(1, 0, 1.0));
    }

    private static void pins() {
        GraphCompare x = Build.withNets(2);
        x.device(0, 0, 1.0);
        x.device(0, 0, 1.0);
        Check.same("4: none to none", false, x.pin(0, 0, 0, NONE));
        Check.same("4: to a net", true, x.pin(0, 0, 3, 1));
        Check.same("4: to the same", false, x.pin(0, 0, 3, 1));
        Check.same("4: to another", true, x.pin(0, 0, 3, 0));
        Check.same("4: off", true, x.pin(0, 0, 3, NONE));
        Check.outOfBounds("4: side", () -> x.pin(2, 0, 0, 0));
        Check.outOfBounds("4: device of the other side", () -> x.pin(1, 0, 0, 0));
        Check.outOfBounds("4: device", () -> x.pin(0, 2, 0, 0));
        Check.outOfBounds("4: device -1", () -> x.pin(0, -1, 0, 0));
        Check.outOfBounds("4: pin 4", () -> x.pin(0, 0, 4, 0));
        Check.outOfBounds("4: pin -1", () -> x.pin(0, 0, -1, 0));
        Check.outOfBounds("4: net 2", () -> x.pin(0, 0, 0, 2));
        Check.outOfBounds("4: net -2", () -> x.pin(0, 0, 0, -2));
        Check.same("4: joined", 1, x.join(0, 0));
        Check.outOfBounds("4: a device that is gone", () -> x.pin(0, 1, 0, 0));
        Check.same("4: one that stays", true, x.pin(0, 0, 0, 0));
    }

    private static void swaps() {
        GraphCompare x = Build.withNets(4);
        Build.add(x, 0, 2, 1.0, 0, 1, 2, 3);
        Build.add(x, 1, 2, 1.0, 0, 1, 2, 3);
        x.port(0, 0, 0);
        x.port(1, 1, 0);
        Check.same("5: pins differ", 0, x.run(2000));
        Check.same("5: itself", false, x.swap(2, 1, 1));
        Check.same("5: of another kind", true, x.swap(3, 0, 1));
        Check.same("5: still differ", 0, x.run(2000));
        Check.same("5: 1 and 2", true, x.swap(2, 2, 1));
        Check.same("5: 0 and 3", true, x.swap(2, 0, 3));
        Check.same("5: two groups", 0, x.run(2000));
        Check.same("5: groups become one", true, x.swap(2, 3, 2));
        Check.same("5: 0 and 1 through it", false, x.swap(2, 0, 1));
        Check.same("5: all are one", 1, x.run(2000));
        Check.outOfBounds("5: kind 8", () -> x.swap(8, 0, 0));
        Check.outOfBounds("5: kind -1", () -> x.swap(-1, 0, 0));
        Check.outOfBounds("5: pin 4", () -> x.swap(0, 4, 0));
        Check.outOfBounds("5: pin -1", () -> x.swap(0, 0, -1));
    }

    private static void shares() {
        GraphCompare x = new GraphCompare();
        x.device(0, 1, 8.0);
        x.device(1, 1, 6.0);
        Check.same("6: 0 at first", false, x.share(1, 0.0));
        Check.same("6: -0.0 is 0.0", false, x.share(1, -0.0));
        Check.same("6: sizes differ", 0, x.run(2000));
        Check.same("6: of another kind", true, x.share(0, 1.0));
        Check.same("6: sizes still differ", 0, x.run(2000));
        Check.same("6: too little", true, x.share(1, 0.24999999999999997));
        Check.same("6: 2 is more than that of 8", 0, x.run(2000));
        Check.same("6: just enough", true, x.share(1, 0.25));
        Check.same("6: 2 is a quarter of 8", 1, x.run(2000));
        Check.same("6: the same again", false, x.share(1, 0.25));
        Check.same("6: 1", true, x.share(1, 1.0));
        double[] wrong = {-4.9e-324, 1.0000000000000002, 1.0 / 0.0, -1.0 / 0.0, 0.0 / 0.0};
        for (double v : wrong) {
            Check.badArgument("6: share " + v, () -> x.share(1, v));
        }
        Check.outOfBounds("6: kind 8", () -> x.share(8, 2.0));
        Check.outOfBounds("6: kind -1", () -> x.share(-1, 0.0));
        Check.same("6: to -0.0", true, x.share(1, -0.0));
        Check.same("6: is 0.0", false, x.share(1, 0.0));
    }

    private static void ports() {
        GraphCompare x = Build.withNets(3);
        Check.same("7: none before", true, x.port(0, 0, 5));
        Check.same("7: the same again", false, x.port(0, 0, 5));
        Check.badArgument("7: name of another", () -> x.port(0, 1, 5));
        Check.same("7: the other side", true, x.port(1, 2, 5));
        Check.same("7: another name", false, x.port(0, 0, Integer.MAX_VALUE));
        Check.same("7: the name is free", true, x.port(0, 1, 5));
        Check.badArgument("7: name below 0", () -> x.port(0, 2, -1));
        Check.outOfBounds("7: net", () -> x.port(0, 3, -1));
        Check.outOfBounds("7: net -1", () -> x.port(0, -1, 0));
        Check.outOfBounds("7: side", () -> x.port(2, 0, 0));
        Check.same("7: names differ", 0, x.run(2000));
        x.port(1, 0, Integer.MAX_VALUE);
        Check.same("7: names are the same", 1, x.run(2000));
        Check.same("7: ports without pins are paired", 0, x.netMatch(0));
        Check.same("7: by name", 2, x.netMatch(1));
        Check.same("7: not used", NONE, x.netMatch(2));
    }

    private static void parallelJoins() {
        GraphCompare x = Build.withNets(3);
        Build.add(x, 0, 0, 1.0, 0, 1);
        Build.add(x, 0, 0, 2.0, 1, 0);
        Build.add(x, 0, 1, 4.0, 0, 1);
        Build.add(x, 0, 0, 8.0, 0, 1);
        Build.add(x, 0, 0, 16.0, 0, 0);
        Check.same("8: 0 and 3 are joined", 4, x.join(0, 0));
        Check.outOfBounds("8: the greater one is gone", () -> x.pin(0, 3, 0, 0));
        x.swap(0, 0, 1);
        Check.same("8: by groups", 3, x.join(0, 0));
        Check.outOfBounds("8: 1 is gone", () -> x.pin(0, 1, 0, 0));
        Check.same("8: each as often", 3, x.join(0, 0));
        Build.add(x, 1, 0, 11.0, 0, 1);
        Build.add(x, 1, 1, 4.0, 0, 1);
        Build.add(x, 1, 0, 16.0, 0, 0);
        Check.same("8: sizes are sums", 1, x.run(2000));
        GraphCompare y = Build.withNets(1);
        y.device(0, 4, 0.5);
        y.device(0, 4, 0.5);
        y.device(0, 4, 1000000.0);
        Build.add(y, 0, 4, 1.0, NONE, 0);
        Check.same("8: pins on none", 2, y.join(0, 0));
        Check.same("8: the other side", 0, y.join(1, 0));
    }

    private static void seriesJoins() {
        GraphCompare x = Build.withNets(6);
        Build.add(x, 0, 0, 2.0, 0, 1);
        Build.add(x, 0, 0, 2.0, 2, 1);
        Build.add(x, 0, 0, 1.0, 3, 2);
        Check.same("8: pins of two groups", 3, x.join(0, 1));
        x.swap(0, 1, 0);
        x.port(0, 2, 0);
        Check.same("8: not at a port", 2, x.join(0, 1));
        Build.add(x, 1, 0, 1.0, 0, 2);
        Build.add(x, 1, 0, 1.0, 2, 3);
        x.port(1, 2, 0);
        Check.same("8: halves of 2", 1, x.run(2000));
        Check.same("8: the pin came to net 2", 2, x.netMatch(2));
        Check.same("8: net 1 is not used", NONE, x.netMatch(1));
        GraphCompare y = Build.withNets(4);
        y.swap(0, 0, 1);
        Build.add(y, 0, 0, 1.0, 0, 1);
        Build.add(y, 0, 0, 1.0, 1, 2);
        Build.add(y, 0, 1, 1.0, 1);
        Check.same("8: another one on the net", 3, y.join(0, 1));
        y.pin(0, 2, 0, NONE);
        y.pin(0, 1, 2, 3);
        Check.same("8: a third pin", 3, y.join(0, 1));
        y.pin(0, 1, 2, NONE);
        y.pin(0, 1, 1, 1);
        Check.same("8: both pins on the net", 3, y.join(0, 1));
        y.pin(0, 1, 1, NONE);
        Check.same("8: a pin on none", 3, y.join(0, 1));
        y.pin(0, 1, 1, 0);
        Check.same("8: two nets in common", 2, y.join(0, 1));
        Check.same("8: the lesser net is left", false, y.pin(0, 0, 0, 1));
        Check.same("8: both pins are on the greater one", false, y.pin(0, 0, 1, 1));
        Check.same("8: again", 2, y.join(0, 1));
        seriesChains();
    }

    private static void seriesChains() {
        GraphCompare x = Build.withNets(40);
        x.swap(0, 0, 1);
        for (int i = 0; i < 30; i++) {
            Build.add(x, 0, 0, 30.0, i, i + 1);
        }
        Check.same("8: a chain becomes one", 1, x.join(0, 1));
        Check.same("8: it begins at 0", false, x.pin(0, 0, 0, 0));
        Check.same("8: it ends at 30", false, x.pin(0, 0, 1, 30));
        GraphCompare y = Build.withNets(4);
        y.swap(0, 0, 1);
        Build.add(y, 0, 0, 1.0, 0, 1);
        Build.add(y, 0, 0, 3.0, 2, 3);
        Build.add(y, 0, 0, 7.0, 2, 1);
        y.join(0, 1);
        double step = 1.0 / (1.0 / 1.0 + 1.0 / 7.0);
        Build.add(y, 1, 0, 1.0 / (1.0 / step + 1.0 / 3.0), 0, 3);
        Check.same("8: the least pair first, as doubles", 1, y.run(2000));
        GraphCompare z = Build.withNets(4);
        z.swap(0, 0, 1);
        for (int side = 0; side < 2; side++) {
            Build.add(z, side, 0, 4.9e-324, 0, 1);
            Build.add(z, side, 0, 4.9e-324, 1, 2);
            Build.add(z, side, 0, 1.0, 2, 3);
            Check.same("8: next to nothing", 1, z.join(side, 1));
        }
        Check.same("8: sizes of 0 agree", 1, z.run(1));
        joinedSizes();
    }

    /** What a pair of two sizes comes to, by each rule, against a device of that size. */
    private static void joinedSizes() {
        double[][] rows = {
            {0, 0.5, 0.25, 0.75}, {1, 0.5, 1.0, 1.0 / 3.0}, {1, 4.0, 4.0, 2.0},
            {1, 0.1, 0.2, 1.0 / (1.0 / 0.1 + 1.0 / 0.2)},
            {1, 0.2, 0.05, 1.0 / (1.0 / 0.2 + 1.0 / 0.05)}, {0, 0.1, 0.2, 0.1 + 0.2},
            {0, 400000.0, 600000.0, 1000000.0},
        };
        for (double[] row : rows) {
            GraphCompare x = Build.withNets(3);
            x.swap(5, 0, 1);
            Build.add(x, 0, 5, row[1], 0, 1);
            Build.add(x, 0, 5, row[2], 1, row[0] == 0 ? 0 : 2);
            Build.add(x, 1, 5, row[3], 0, 1);
            Check.same("8: two become one", 1, x.join(0, (int) row[0]));
            Check.same("8: of size " + row[3], 1, x.run(1));
        }
        GraphCompare y = Build.withNets(3);
        y.swap(5, 0, 1);
        Build.add(y, 0, 5, 4.9e-324, 0, 1);
        Build.add(y, 0, 5, 4.9e-324, 1, 2);
        y.join(0, 1);
        Build.add(y, 0, 5, 3.0, 0, 2);
        y.join(0, 0);
        Build.add(y, 1, 5, 3.0, 0, 2);
        Check.same("8: 0 and 3 are 3", 1, y.run(1));
        Check.same("8: 0 before 5", 1, withNothingInSeries(0).run(1));
        Check.same("8: 0 behind 5", 1, withNothingInSeries(1).run(1));
    }

    /** Two next to nothing come to 0, with 5.0 in series to 0 again, beside 3.0 to 3.0. */
    private static GraphCompare withNothingInSeries(int tiny) {
        GraphCompare x = Build.withNets(4);
        x.swap(5, 0, 1);
        for (int i = 0; i < 3; i++) {
            x.device(0, 5, i == tiny || i == tiny + 1 ? 4.9e-324 : 5.0);
        }
        x.pin(0, tiny, 0, 0);
        x.pin(0, tiny, 1, 1);
        x.pin(0, tiny + 1, 0, 1);
        x.pin(0, tiny + 1, 1, 2);
        Check.same("8: two are left", 2, x.join(0, 1));
        int other = tiny == 0 ? 2 : 0;
        x.pin(0, other, 0, 2);
        x.pin(0, other, 1, 3);
        Check.same("8: one is left", 1, x.join(0, 1));
        Build.add(x, 0, 5, 3.0, 0, 3);
        Check.same("8: and is still one", 1, x.join(0, 0));
        Build.add(x, 1, 5, 3.0, 0, 3);
        return x;
    }

    private static void wrongJoins() {
        GraphCompare x = new GraphCompare();
        Check.badArgument("8: rule 2", () -> x.join(0, 2));
        Check.badArgument("8: rule -1", () -> x.join(1, -1));
        Check.outOfBounds("8: side 2", () -> x.join(2, 0));
        Check.outOfBounds("8: side first", () -> x.join(-1, 5));
    }

    private static void runs() {
        GraphCompare x = Build.withNets(3);
        Check.same("9: empty", 1, x.run(0));
        Check.badArgument("9: -1", () -> x.run(-1));
        Check.badArgument("9: 2001", () -> x.run(2001));
        Check.badArgument("9: a long that wraps to 0", () -> x.run(1L << 32));
        Check.badArgument("9: least long", () -> x.run(Long.MIN_VALUE));
        Build.add(x, 0, 0, 1.0, 0);
        Check.same("9: nothing is tried", 0, x.run(0));
        Build.add(x, 1, 0, 1.0, NONE);
        Check.same("9: other nets: nothing is tried", 0, x.run(0));
        x.pin(1, 0, 0, 2);
        x.port(0, 0, 1);
        Check.same("9: other ports: nothing is tried", 0, x.run(0));
        x.port(1, 2, 1);
        Check.same("9: one try is too many", 2, x.run(0));
        Check.same("9: one is enough", 1, x.run(1));
        Check.same("9: ", 0, x.match(0, 0));
        Check.same("9: ", 2, x.netMatch(0));
        GraphCompare y = new GraphCompare();
        y.device(0, 0, 1.0);
        y.device(0, 1, 1.0);
        y.device(1, 0, 1.0);
        y.device(1, 2, 1.0);
        Check.same("9: kinds differ, yet one is tried", 2, y.run(0));
        Check.same("9: none of the class is left", 0, y.run(1));
    }

    private static void searches() {
        GraphCompare x = Build.withNets(4);
        // A square of like devices with like pins on each side, its corners numbered otherwise.
        x.swap(0, 0, 1);
        int[][] first = {{0, 1}, {1, 2}, {2, 3}, {3, 0}};
        int[][] second = {{0, 2}, {1, 3}, {2, 1}, {3, 0}};
        for (int i = 0; i < 4; i++) {
            Build.add(x, 0, 0, 1.0, first[i]);
            Build.add(x, 1, 0, 1.0, second[i]);
        }
        // 0 with 0; 1 not with 1 (no net in common with 0), but with 2; 2 with 1; 3 with 3.
        Check.same("9: five tries do", 1, x.run(5));
        Check.same("9: four do not", 2, x.run(4));
        x.run(5);
        int[] devicePairs = {0, 2, 1, 3};
        int[] netPairs = {0, 2, 1, 3};
        for (int i = 0; i < 4; i++) {
            Check.same("9: device " + i, devicePairs[i], x.match(0, i));
            Check.same("9: net " + i, netPairs[i], x.netMatch(i));
        }
        GraphCompare y = Build.withNets(2);
        // Sizes rule the first way out: device 0 has to go on to its next one.
        y.device(0, 0, 1.0);
        y.device(0, 0, 2.0);
        y.device(1, 0, 2.0);
        y.device(1, 0, 1.0);
        Check.same("9: three tries do", 1, y.run(3));
        Check.same("9: 0 goes with 1", 1, y.match(0, 0));
        y.share(0, 0.5);
        Check.same("9: two tries do", 1, y.run(2));
        Check.same("9: 0 goes with 0", 0, y.match(0, 0));
    }

    private static void limitsOfTries() {
        GraphCompare x = new GraphCompare();
        for (int i = 0; i < 5; i++) {
            x.device(0, 0, i < 4 ? 1.0 : 2.0);
            x.device(1, 0, 1.0);
        }
        // Four are paired in each order, and the last one never fits: 5 + 5*4 + 5*4*3 + 5! + 5!.
        Check.same("9: all are tried", 0, x.run(325));
        Check.same("9: one less", 2, x.run(324));
        Check.same("9: sort 5", "", Build.allDifferences(x));
        x.run(325);
        Check.same("9: sort 5 again", "5,0,0,0;", Build.allDifferences(x));
        GraphCompare y = new GraphCompare();
        for (int i = 0; i < 30; i++) {
            y.device(0, 0, 1.0);
            y.device(1, 0, 1.0);
        }
        Check.same("9: thirty at once", 1, y.run(30));
        Check.same("9: the last", 29, y.match(1, 29));
        Check.same("9: too few", 2, y.run(29));
    }

    private static void fullSides() {
        GraphCompare x = Build.withNets(40);
        // All pins of thirty devices are on the last net, and all other nets are ports.
        for (int side = 0; side < 2; side++) {
            for (int i = 0; i < 30; i++) {
                Build.add(x, side, 7, 1.0, 39, 39, 39, 39);
            }
            for (int net = 0; net < 39; net++) {
                x.port(side, net, side == 0 ? net : 38 - net);
            }
        }
        Check.same("9: all pins on one net", 1, x.run(30));
        Check.same("9: the last net", 39, x.netMatch(39));
        Check.same("9: a port", 38, x.netMatch(0));
        Check.same("13: no round", 0, x.rounds());
        Check.same("14: all are like", 30, x.tried());
        for (int i = 0; i < 30; i++) {
            x.pin(0, i, 3, i);
            x.pin(1, 29 - i, 3, 38 - i);
        }
        Check.same("9: told by ports", 1, x.run(30));
        Check.same("9: the first with the last", 29, x.match(0, 0));
        Check.same("13: one round", 1, x.rounds());
        Check.same("14: none is like another", 0, x.tried());
        Check.same("15: a match", true, x.tested());
    }

    /** Chains as long as can be: there are the most rounds, and each one counts. */
    private static void longChains() {
        GraphCompare x = Build.withNets(31);
        for (int i = 0; i < 30; i++) {
            Build.add(x, 0, 0, 1.0, i, i + 1);
            Build.add(x, 1, 0, 1.0, 30 - i, 29 - i);
        }
        Check.same("13: a long chain", 1, x.run(30));
        Check.same("13: its rounds", 30, x.rounds());
        Check.same("11: its end", 0, x.netMatch(30));
        Check.same("14: no two are like", 0, x.tried());
        x.swap(0, 0, 1);
        Check.same("9: from the other end", 1, x.run(2000));
        Check.same("13: its rounds from both ends", 29, x.rounds());
        Check.same("14: each with its like", 30, x.tried());
    }

    private static void matches() {
        GraphCompare x = Build.withNets(2);
        Build.add(x, 0, 0, 1.0, 0);
        Build.add(x, 0, 0, 1.0, 1, 1);
        Build.add(x, 1, 0, 1.0, 0, 0);
        Build.add(x, 1, 0, 1.0, 1);
        Check.same("10: not compared", NONE, x.match(0, 0));
        x.run(2000);
        Check.same("10: 0", 1, x.match(0, 0));
        Check.same("10: 1", 0, x.match(0, 1));
        Check.same("10: 0 of side 1", 1, x.match(1, 0));
        Check.same("10: 1 of side 1", 0, x.match(1, 1));
        Check.outOfBounds("10: device 2", () -> x.match(0, 2));
        Check.outOfBounds("10: device -1", () -> x.match(0, -1));
        Check.outOfBounds("10: side", () -> x.match(2, 0));
        x.device(0, 0, 1.0);
        Check.same("10: a new one", NONE, x.match(0, 2));
        x.pin(1, 1, 0, 0);
        x.pin(1, 1, 1, 0);
        x.join(1, 0);
        Check.same("10: one that is gone", NONE, x.match(1, 1));
        Check.same("10: its partner", 1, x.match(0, 0));
        x.run(2000);
        Check.same("10: no match is kept", NONE, x.match(0, 0));
    }

    private static void netMatches() {
        GraphCompare x = Build.withNets(3);
        x.net(0, 0);
        Build.add(x, 0, 0, 1.0, 0, 2);
        Build.add(x, 1, 0, 1.0, 2, 1);
        Check.same("11: not compared", NONE, x.netMatch(0));
        x.run(2000);
        Check.same("11: 0", 2, x.netMatch(0));
        Check.same("11: not used", NONE, x.netMatch(1));
        Check.same("11: 2", 1, x.netMatch(2));
        Check.same("11: only side 0 has it", NONE, x.netMatch(3));
        Check.outOfBounds("11: net 4", () -> x.netMatch(4));
        Check.outOfBounds("11: net -1", () -> x.netMatch(-1));
        x.pin(0, 0, 0, 1);
        Check.same("11: used later", NONE, x.netMatch(1));
        Check.same("11: not used any more", 2, x.netMatch(0));
        x.run(0);
        Check.same("11: behind 2", NONE, x.netMatch(2));
        GraphCompare y = Build.withNets(3);
        y.swap(0, 0, 1);
        y.swap(0, 1, 2);
        Build.add(y, 0, 0, 1.0, 2, 0, 1);
        Build.add(y, 1, 0, 1.0, 1, 2, 0);
        y.run(2000);
        for (int net = 0; net < 3; net++) {
            Check.same("11: like nets, the least first", net, y.netMatch(net));
        }
    }

    private static void differences() {
        GraphCompare x = Build.withNets(4);
        Build.add(x, 0, 3, 1.0, 0);
        Build.add(x, 0, 1, 1.0, 0);
        Build.add(x, 0, 1, 1.0, 1);
        Build.add(x, 1, 3, 1.0, 0);
        Build.add(x, 1, 7, 1.0, 0);
        x.port(0, 2, 9);
        x.port(0, 3, 4);
        x.port(1, 0, 9);
        x.port(1, 3, 2);
        Check.same("12: ", 0, x.run(2000));
        Check.same("12: all", "1,1,2,0;1,7,0,1;2,0,4,2;3,2,0,1;3,4,1,0;", Build.allDifferences(x));
        Check.outOfBounds("12: what 4", () -> x.differs(0, 4));
        Check.outOfBounds("12: what -1", () -> x.differs(0, -1));
        Check.outOfBounds("12: k -1", () -> x.differs(-1, 0));
        Check.outOfBounds("12: k 5", () -> x.differs(5, 0));
        x.port(0, 0, 2);
        Check.same("12: they stay", 5, Build.allDifferences(x).split(";").length);
        GraphCompare y = Build.withNets(40);
        for (int net = 0; net < 40; net++) {
            y.port(0, net, 2 * net);
            y.port(1, net, 2 * net + 1);
        }
        for (int i = 0; i < 30; i++) {
            y.device(0, i % 4, 1.0);
            y.device(1, 4 + i % 4, 1.0);
        }
        y.run(0);
        Check.same("12: as many as there can be", 88, Build.allDifferences(y).split(";").length);
        Check.same("12: the last name", 79, y.differs(87, 1));
        y.run(0);
        Check.same("12: listed anew", 88, Build.allDifferences(y).split(";").length);
    }

    private static void differencesOfClasses() {
        GraphCompare x = Build.withNets(6);
        // Side 0 has two that share a net and one alone, side 1 three alone; a spare net is a port.
        Build.add(x, 0, 0, 1.0, 0);
        Build.add(x, 0, 0, 1.0, 1);
        Build.add(x, 0, 0, 1.0, 0);
        x.port(0, 2, 0);
        Build.add(x, 1, 0, 1.0, 2);
        Build.add(x, 1, 0, 1.0, 1);
        Build.add(x, 1, 0, 1.0, 2);
        x.port(1, 0, 0);
        Check.same("12: like but for numbers", 1, x.run(2000));
        Check.same("12: none of a match", "", Build.allDifferences(x));
        x.pin(1, 0, 0, 1);
        x.pin(1, 1, 1, 2);
        // Side 1 now: pin 0 of 0 on net 1 with pin 0 of 1, whose pin 1 is on net 2 with 2's pin 0.
        Check.same("12: classes differ", 0, x.run(2000));
        Check.same("12: by devices", "4,0,2,0;4,1,1,0;4,0,0,1;4,1,0,1;4,2,0,1;",
            Build.allDifferences(x));
        Check.same("12: an empty run behind it", 2, withOnePair().run(0));
        GraphCompare y = withOnePair();
        y.device(0, 0, 3.0);
        y.device(1, 0, 4.0);
        Check.same("12: sizes", 0, y.run(2000));
        Check.same("12: of the whole", "5,0,0,0;", Build.allDifferences(y));
        Check.same("12: what of 5", 0, y.differs(0, 3));
        y.run(0);
        Check.same("12: none behind 2", "", Build.allDifferences(y));
    }

    private static GraphCompare withOnePair() {
        GraphCompare x = new GraphCompare();
        x.device(0, 0, 1.0);
        x.device(1, 0, 1.0);
        return x;
    }

    private static void rounds() {
        GraphCompare x = Build.withNets(40);
        // A chain: each round tells the next ones from both ends apart, of devices and of nets.
        for (int side = 0; side < 2; side++) {
            for (int i = 0; i < 5; i++) {
                Build.add(x, side, 0, 1.0, i, i + 1);
            }
        }
        Check.same("13: like", 1, x.run(2000));
        Check.same("13: a chain of five", 5, x.rounds());
        x.swap(0, 0, 1);
        Check.same("13: none since", 5, x.rounds());
        x.run(0);
        Check.same("13: none that answers 2", 5, x.rounds());
        x.run(2000);
        Check.same("13: with like pins", 4, x.rounds());
        x.port(0, 0, 0);
        Check.same("13: nothing is tried", 0, x.run(0));
        Check.same("13: rounds all the same", true, x.rounds() > 4);
        GraphCompare y = new GraphCompare();
        y.run(0);
        Check.same("13: nothing to divide", 0, y.rounds());
        y.device(0, 0, 1.0);
        y.device(0, 1, 1.0);
        y.device(1, 0, 1.0);
        y.run(0);
        Check.same("13: kinds are no round", 0, y.rounds());
    }

    private static void tried() {
        GraphCompare x = Build.withNets(6);
        for (int side = 0; side < 2; side++) {
            Build.add(x, side, 0, 1.0, 0, 1);
            Build.add(x, side, 0, 1.0, 2, 3);
            Build.add(x, side, 0, 1.0, 4, 4);
            Build.add(x, side, 1, 1.0, 5);
        }
        Check.same("14: none yet", 0, x.tried());
        x.run(2000);
        Check.same("14: two are like", 2, x.tried());
        x.port(0, 0, 0);
        Check.same("14: none since", 2, x.tried());
        x.run(2000);
        Check.same("14: told by a port", 0, x.tried());
        x.port(1, 0, 0);
        x.run(1);
        Check.same("14: none that answers 2", 0, x.tried());
        GraphCompare y = new GraphCompare();
        y.device(0, 0, 1.0);
        y.device(1, 0, 1.0);
        y.device(1, 0, 1.0);
        y.run(2000);
        Check.same("14: of side 0 alone", 0, y.tried());
        y.device(0, 0, 1.0);
        y.device(0, 0, 1.0);
        y.run(2000);
        Check.same("14: three", 3, y.tried());
        y.join(0, 0);
        y.run(2000);
        Check.same("14: not of those that are gone", 0, y.tried());
    }

    private static void testedPairs() {
        GraphCompare x = Build.withNets(3);
        Check.same("15: nothing kept", false, x.tested());
        x.run(0);
        Check.same("15: empty", true, x.tested());
        Build.add(x, 0, 0, 8.0, 0, 1);
        Check.same("15: a new device", false, x.tested());
        Build.add(x, 1, 0, 8.0, 2, 1);
        Check.same("15: not paired", false, x.tested());
        x.run(2000);
        Check.same("15: found", true, x.tested());
        x.pin(1, 0, 0, 0);
        Check.same("15: a net that was not used", false, x.tested());
        x.pin(1, 0, 0, 1);
        x.pin(1, 0, 1, 2);
        Check.same("15: pins change places", false, x.tested());
        x.swap(0, 0, 1);
        Check.same("15: they are one group now", true, x.tested());
        x.port(0, 0, 3);
        Check.same("15: a port", false, x.tested());
        x.port(1, 2, 4);
        Check.same("15: other names", false, x.tested());
        x.port(1, 2, 3);
        Check.same("15: the same name", true, x.tested());
        x.port(1, 0, 7);
        Check.same("15: a port of side 1", false, x.tested());
        x.run(0);
        Check.same("15: none is kept", false, x.tested());
        GraphCompare y = Build.withNets(1);
        Build.add(y, 0, 0, 8.0, 0);
        Build.add(y, 1, 0, 4.0, 0);
        y.share(0, 0.5);
        y.run(2000);
        y.share(0, 0.49);
        Check.same("15: shares as they are now", false, y.tested());
        y.share(0, 0.5);
        Check.same("15: agree again", true, y.tested());
        y.pin(0, 0, 0, NONE);
        Check.same("15: used on one side", false, y.tested());
        y.pin(1, 0, 0, NONE);
        Check.same("15: used on none", true, y.tested());
    }

    private static void testedAfterJoins() {
        GraphCompare x = Build.withNets(3);
        x.swap(0, 0, 1);
        for (int side = 0; side < 2; side++) {
            Build.add(x, side, 0, 2.0, 0, 1);
            Build.add(x, side, 0, 2.0, 1, 2);
        }
        x.run(2000);
        Check.same("15: before", true, x.tested());
        x.join(0, 1);
        Check.same("15: gone on one side", false, x.tested());
        x.join(1, 1);
        Check.same("15: gone on both, the net between too", true, x.tested());
        Check.same("15: the pair stays", 0, x.match(0, 0));
        Check.same("15: so does the net's", 1, x.netMatch(1));
        x.net(0, 0);
        Check.same("15: a net that is not used", true, x.tested());
        x.device(0, 5, 1.0);
        Check.same("15: a device more", false, x.tested());
    }

    private static void throwingChangesNothing() {
        GraphCompare x = Build.withNets(2);
        Build.add(x, 0, 0, 1.0, 0);
        Build.add(x, 1, 0, 1.0, 1);
        x.run(2000);
        Check.badArgument("a run that throws", () -> x.run(2001));
        Check.badArgument("a share that throws", () -> x.share(0, 2.0));
        Check.badArgument("a join that throws", () -> x.join(0, 2));
        Check.badArgument("a port that throws", () -> x.port(0, 0, -1));
        Check.outOfBounds("a pin that throws", () -> x.pin(0, 0, 0, 2));
        Check.outOfBounds("a swap that throws", () -> x.swap(0, 0, 4));
        Check.same("the match stays", 0, x.match(0, 0));
        Check.same("the net's, too", 1, x.netMatch(0));
        Check.same("and is one", true, x.tested());
        Check.same("pins are other groups still", true, x.swap(0, 0, 1));
    }
}
