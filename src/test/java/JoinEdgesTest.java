/** The edges of joining (promise 8): a test for each sentence, with its words above it. */
public final class JoinEdgesTest {
    private static final int NONE = GraphCompare.NONE;
    private static final int PARALLEL = 0;
    private static final int SERIES = 1;
    private static final double TINY = 4.9e-324;

    private JoinEdgesTest() {
    }

    public static void main(String[] args) {
        joinRules();
        howManyAreNotGone();
        devicesOfOneKind();
        devicesOfOneSide();
        asLongAsThereAreSuch();
        theLesserOneStays();
        sumsInOrder();
        sizesBeyondTheGreatest();
        sameNetsEachAsOften();
        asManyPinsOnNone();
        pinsOfOneGroupInAnyOrder();
        pinsZeroAndOneOnNets();
        pinsZeroAndOneInOneGroup();
        pinsTwoAndThreeOnNone();
        aNetInCommon();
        noPort();
        justOnePinOfEach();
        noOtherDeviceOnIt();
        oneThatIsGoneMayBeOnIt();
        theLesserOfTwoNets();
        theOtherNetOfTheOtherOne();
        seriesInOrder();
        sizesOfSeries();
        sizesNextToNothing();
        rulesOneBehindAnother();
        Check.finish("JoinEdgesTest");
    }

    private static double inSeries(double a, double b) {
        return 1.0 / (1.0 / a + 1.0 / b);
    }

    /** Nets 0 .. 5 on both sides, and pins 0 and 1 of kind 0 in one group. */
    private static GraphCompare forSeries() {
        GraphCompare x = Build.withNets(6);
        x.swap(0, 0, 1);
        return x;
    }

    // "there is no such rule"
    private static void joinRules() {
        GraphCompare x = new GraphCompare();
        for (int i = 0; i < 3; i++) {
            x.device(0, 0, 1.0);
        }
        for (int wrong : new int[] {-1, 2, Integer.MIN_VALUE, Integer.MAX_VALUE}) {
            Check.badArgument("8: rule " + wrong, () -> x.join(0, wrong));
            Check.badArgument("8: of an empty side", () -> x.join(1, wrong));
        }
        Check.same("8: rule 1", 3, x.join(0, 1));
        Check.same("8: rule 0", 1, x.join(0, 0));
    }

    // "Devices of a side are joined by a rule: how many are not gone then."
    private static void howManyAreNotGone() {
        GraphCompare x = new GraphCompare();
        Check.same("8: none", 0, x.join(0, PARALLEL));
        Check.same("8: none in series", 0, x.join(0, SERIES));
        x.device(0, 0, 1.0);
        Check.same("8: one", 1, x.join(0, PARALLEL));
        Check.same("8: one in series", 1, x.join(0, SERIES));
        x.device(0, 0, 1.0);
        x.device(0, 1, 1.0);
        Check.same("8: two are no series", 3, x.join(0, SERIES));
        Check.same("8: but parallel", 2, x.join(0, PARALLEL));
        Check.same("8: nothing is left to join", 2, x.join(0, PARALLEL));
        Check.same("8: nothing on side 1", 0, x.join(1, PARALLEL));
    }

    // "two devices of a side and kind"
    private static void devicesOfOneKind() {
        GraphCompare x = Build.withNets(3);
        x.swap(0, 0, 1);
        x.swap(1, 0, 1);
        Build.add(x, 0, 0, 1.0, 0, 1);
        Build.add(x, 0, 1, 1.0, 0, 1);
        Check.same("8: parallel ones of two kinds", 2, x.join(0, PARALLEL));
        x.pin(0, 1, 0, 2);
        Check.same("8: series ones of two kinds", 2, x.join(0, SERIES));
    }

    private static void devicesOfOneSide() {
        GraphCompare x = forSeries();
        Build.add(x, 0, 0, 1.0, 0, 1);
        Build.add(x, 1, 0, 1.0, 0, 1);
        Check.same("8: not across sides", 1, x.join(0, PARALLEL));
        x.pin(1, 0, 0, 2);
        Check.same("8: nor in series", 1, x.join(0, SERIES));
        Build.add(x, 1, 0, 1.0, 1, 2);
        Build.add(x, 0, 0, 1.0, 1, 0);
        Check.same("8: of side 0 alone", 1, x.join(0, PARALLEL));
        Check.same("8: one of side 1 is not gone", false, x.pin(1, 1, 0, 1));
        Check.same("8: of side 1", 1, x.join(1, PARALLEL));
    }

    // "as long as there are such"
    private static void asLongAsThereAreSuch() {
        GraphCompare x = Build.withNets(40);
        x.swap(0, 0, 1);
        for (int i = 0; i < 30; i++) {
            Build.add(x, 0, 0, 1.0, 3, 5);
            Build.add(x, 1, 0, 1.0, 39 - i, 38 - i);
        }
        Check.same("8: thirty parallel ones", 1, x.join(0, PARALLEL));
        Check.same("8: thirty in series", 1, x.join(1, SERIES));
        Check.same("8: from the first net", false, x.pin(1, 0, 0, 39));
        Check.same("8: to the last one", false, x.pin(1, 0, 1, 9));
        GraphCompare y = forSeries();
        // Joining 1 and 2 makes the one that is then joined with 0, which was not before.
        Build.add(y, 0, 0, 1.0, 0, 1);
        Build.add(y, 0, 0, 1.0, 2, 3);
        Build.add(y, 0, 0, 1.0, 3, 1);
        Build.add(y, 0, 0, 1.0, 2, 4);
        Check.same("8: each makes the next one", 1, y.join(0, SERIES));
        Check.same("8: from 0", false, y.pin(0, 0, 0, 0));
        Check.same("8: to 4", false, y.pin(0, 0, 1, 4));
    }

    // "the lesser one stays, the other one is GONE"
    private static void theLesserOneStays() {
        for (int rule = 0; rule < 2; rule++) {
            GraphCompare x = forSeries();
            Build.add(x, 0, 3, 1.0, 5);
            Build.add(x, 0, 0, 1.0, 0, 1);
            Build.add(x, 0, 4, 1.0, 5);
            Build.add(x, 0, 0, 1.0, 1, rule == 0 ? 0 : 2);
            Check.same("8: three stay", 3, x.join(0, rule));
            Check.outOfBounds("8: 3 is gone", () -> x.pin(0, 3, 0, NONE));
            for (int d = 0; d < 3; d++) {
                Check.same("8: not " + d, true, x.pin(0, d, 3, 5));
            }
            Check.same("10: one that is gone is still known", NONE, x.match(0, 3));
        }
    }

    // "always the pair with the least lesser number, then the least greater one"; "the sum"
    private static void sumsInOrder() {
        GraphCompare x = Build.withNets(1);
        double[] sizes = {0.1, 0.1, 0.4};
        for (double size : sizes) {
            Build.add(x, 0, 0, size, 0);
        }
        Check.same("8: one of three", 1, x.join(0, PARALLEL));
        Check.same("8: 0 and 1, then 2", 1, Build.runAgainst(x, 0, 0.1 + 0.1 + 0.4, 0));
        GraphCompare y = Build.withNets(1);
        double[] others = {0.1, 0.4, 0.1};
        for (double size : others) {
            Build.add(y, 0, 0, size, 0);
        }
        Check.same("8: one of three others", 1, y.join(0, PARALLEL));
        Check.same("8: 0 and 1 first here, too", 1, Build.runAgainst(y, 0, 0.1 + 0.4 + 0.1, 0));
        Check.same("8: which is not the same", false, 0.1 + 0.1 + 0.4 == 0.1 + 0.4 + 0.1);
    }

    // "the size is the sum": it may be above what a new device may have
    private static void sizesBeyondTheGreatest() {
        GraphCompare x = Build.withNets(1);
        for (int i = 0; i < 30; i++) {
            x.device(0, 0, 1000000.0);
            if (i < 29) {
                x.device(1, 0, 1000000.0);
            }
        }
        x.join(0, PARALLEL);
        x.join(1, PARALLEL);
        Check.same("8: 30000000 are not 29000000", 0, x.run(2000));
        x.share(0, 1.0 / 30.0);
        Check.same("8: but a thirtieth more", 1, x.run(2000));
        x.share(0, Math.nextDown(1.0 / 30.0));
        Check.same("8: and no less", 0, x.run(2000));
    }

    private static int joinTwo(int rule, int[] nets, int[] others, int... swaps) {
        GraphCompare x = Build.withNets(6);
        for (int i = 0; i + 1 < swaps.length; i += 2) {
            x.swap(0, swaps[i], swaps[i + 1]);
        }
        Build.add(x, 0, 0, 1.0, nets);
        Build.add(x, 0, 0, 1.0, others);
        int left = x.join(0, rule);
        GraphCompare y = Build.withNets(6);
        for (int i = 0; i + 1 < swaps.length; i += 2) {
            y.swap(0, swaps[i + 1], swaps[i]);
        }
        Build.add(y, 1, 0, 1.0, others);
        Build.add(y, 1, 0, 1.0, nets);
        Check.same("8: as well the other way round", left, y.join(1, rule));
        return left;
    }

    private static int[] nets(int... all) {
        return all;
    }

    // "for each group, the same nets each as often"
    private static void sameNetsEachAsOften() {
        Check.same("8: all the same", 1, joinTwo(0, nets(0, 1, 2, 3), nets(0, 1, 2, 3)));
        for (int k = 0; k < 4; k++) {
            int[] other = {0, 1, 2, 3};
            other[k] = 4;
            Check.same("8: pin " + k, 2, joinTwo(0, nets(0, 1, 2, 3), other));
            other[k] = NONE;
            Check.same("8: pin " + k + " on none", 2, joinTwo(0, nets(0, 1, 2, 3), other));
        }
        Check.same("8: all pins on one net", 1, joinTwo(0, nets(5, 5, 5, 5), nets(5, 5, 5, 5)));
        Check.same("8: the same nets, not as often", 2,
            joinTwo(0, nets(0, 0, 1), nets(0, 1, 1), 0, 1, 1, 2));
        Check.same("8: as often", 1, joinTwo(0, nets(0, 0, 1), nets(0, 1, 0), 0, 1, 1, 2));
        Check.same("8: more on one net", 2, joinTwo(0, nets(0, 0, 0), nets(0, 0, 1), 0, 1, 1, 2));
    }

    // "(and as many pins on none)"
    private static void asManyPinsOnNone() {
        Check.same("8: all on none", 1, joinTwo(0, nets(), nets()));
        Check.same("8: a pin on a net", 2, joinTwo(0, nets(), nets(NONE, NONE, NONE, 0)));
        Check.same("8: another pin on none", 2, joinTwo(0, nets(0, NONE), nets(NONE, 0)));
        Check.same("8: a like one on none", 1, joinTwo(0, nets(0, NONE), nets(NONE, 0), 0, 1));
        Check.same("8: two pins on a net, or one", 2,
            joinTwo(0, nets(0, 0, NONE), nets(0, NONE, NONE), 0, 1, 1, 2));
        Check.same("8: one on none in each", 1,
            joinTwo(0, nets(0, 0, NONE, 1), nets(NONE, 0, 0, 1), 0, 1, 1, 2));
    }

    private static void pinsOfOneGroupInAnyOrder() {
        Check.same("8: two groups", 2, joinTwo(0, nets(0, 1), nets(1, 0)));
        Check.same("8: one group", 1, joinTwo(0, nets(0, 1), nets(1, 0), 1, 0));
        Check.same("8: two groups of two", 1,
            joinTwo(0, nets(0, 1, 2, 3), nets(2, 3, 0, 1), 0, 2, 1, 3));
        Check.same("8: across them", 2,
            joinTwo(0, nets(0, 1, 2, 3), nets(1, 0, 3, 2), 0, 2, 1, 3));
        Check.same("8: one group of all", 1,
            joinTwo(0, nets(0, 1, 2, 3), nets(3, 2, 1, 0), 0, 1, 2, 3, 0, 3));
    }

    // "pins 0 and 1 on nets"
    private static void pinsZeroAndOneOnNets() {
        Check.same("8: all on nets", 1, joinTwo(1, nets(0, 1), nets(1, 2), 0, 1));
        Check.same("8: pin 0 on none", 2, joinTwo(1, nets(NONE, 1), nets(1, 2), 0, 1));
        Check.same("8: pin 1 on none", 2, joinTwo(1, nets(1, NONE), nets(1, 2), 0, 1));
        Check.same("8: all on none", 2, joinTwo(1, nets(), nets(), 0, 1));
    }

    // "in one group"
    private static void pinsZeroAndOneInOneGroup() {
        Check.same("8: each alone", 2, joinTwo(1, nets(0, 1), nets(1, 2)));
        Check.same("8: 2 and 3 are one", 2, joinTwo(1, nets(0, 1), nets(1, 2), 2, 3));
        Check.same("8: each with another one", 2, joinTwo(1, nets(0, 1), nets(1, 2), 0, 2, 1, 3));
        Check.same("8: through another one", 1, joinTwo(1, nets(0, 1), nets(1, 2), 0, 3, 3, 1));
    }

    // "pins 2 and 3 on none"
    private static void pinsTwoAndThreeOnNone() {
        Check.same("8: pin 2", 2, joinTwo(1, nets(0, 1, 5), nets(1, 2), 0, 1));
        Check.same("8: pin 3", 2, joinTwo(1, nets(0, 1, NONE, 5), nets(1, 2), 0, 1));
        Check.same("8: of both", 2, joinTwo(1, nets(0, 1, NONE, 5), nets(1, 2, 4), 0, 1));
        Check.same("8: in the group of 0 and 1", 2,
            joinTwo(1, nets(0, 1, 5), nets(1, 2), 0, 1, 1, 2));
    }

    // "and a net in common"
    private static void aNetInCommon() {
        Check.same("8: none", 2, joinTwo(1, nets(0, 1), nets(2, 3), 0, 1));
        Check.same("8: pins 0 and 0", 1, joinTwo(1, nets(1, 0), nets(1, 2), 0, 1));
        Check.same("8: pins 0 and 1", 1, joinTwo(1, nets(1, 0), nets(2, 1), 0, 1));
        Check.same("8: pins 1 and 1", 1, joinTwo(1, nets(0, 1), nets(2, 1), 0, 1));
    }

    // "that is no port"
    private static void noPort() {
        GraphCompare x = forSeries();
        Build.add(x, 0, 0, 1.0, 0, 1);
        Build.add(x, 0, 0, 1.0, 1, 2);
        x.port(0, 1, 0);
        Check.same("8: a port of name 0", 2, x.join(0, SERIES));
        x.port(0, 1, 9);
        Check.same("8: another name", 2, x.join(0, SERIES));
        x.pin(0, 0, 1, 3);
        x.pin(0, 1, 0, 3);
        x.port(0, 0, 0);
        x.port(0, 2, 1);
        x.port(1, 3, 0);
        Check.same("8: ports at the ends, or of side 1", 1, x.join(0, SERIES));
        GraphCompare y = forSeries();
        Build.add(y, 0, 0, 1.0, 0, 1);
        Build.add(y, 0, 0, 1.0, 1, 0);
        y.port(0, 0, 0);
        Check.same("8: the lesser of two is a port", 1, y.join(0, SERIES));
        Check.same("8: pin 0 stays there", false, y.pin(0, 0, 0, 0));
        Check.same("8: pin 1 comes there", false, y.pin(0, 0, 1, 0));
        GraphCompare z = forSeries();
        Build.add(z, 0, 0, 1.0, 0, 1);
        Build.add(z, 0, 0, 1.0, 1, 0);
        z.port(0, 0, 0);
        z.port(0, 1, 1);
        Check.same("8: both are ports", 2, z.join(0, SERIES));
    }

    // "on which is just one pin of each"
    private static void justOnePinOfEach() {
        Check.same("8: two of one", 2, joinTwo(1, nets(1, 1), nets(1, 2), 0, 1));
        Check.same("8: two of each", 2, joinTwo(1, nets(1, 1), nets(1, 1), 0, 1));
        Check.same("8: both on two of their own", 2, joinTwo(1, nets(1, 1), nets(2, 2), 0, 1));
        Check.same("8: two of one, none of the other", 2,
            joinTwo(1, nets(1, 1), nets(2, 3), 0, 1));
    }

    // "and no other one of a device that is not gone"
    private static void noOtherDeviceOnIt() {
        for (int kind = 0; kind < 2; kind++) {
            for (int k = 0; k < 4; k++) {
                GraphCompare x = forSeries();
                Build.add(x, 0, 0, 1.0, 0, 1);
                Build.add(x, 0, 0, 1.0, 1, 2);
                int third = x.device(0, kind, 1.0);
                x.pin(0, third, k, 1);
                Check.same("8: pin " + k + " of a third one", 3, x.join(0, SERIES));
                x.pin(0, third, k, 0);
                Check.same("8: on another net", 2, x.join(0, SERIES));
            }
        }
        GraphCompare y = forSeries();
        Build.add(y, 0, 0, 1.0, 0, 1);
        Build.add(y, 0, 0, 1.0, 1, 0);
        Build.add(y, 0, 1, 1.0, 0);
        Check.same("8: on the lesser of two", 2, y.join(0, SERIES));
        Check.same("8: the greater one is left", false, y.pin(0, 0, 1, 0));
        GraphCompare z = forSeries();
        Build.add(z, 0, 0, 1.0, 0, 1);
        Build.add(z, 0, 0, 1.0, 1, 2);
        Build.add(z, 1, 0, 1.0, 1, 1);
        Check.same("8: one of side 1", 1, z.join(0, SERIES));
    }

    private static void oneThatIsGoneMayBeOnIt() {
        GraphCompare x = forSeries();
        Build.add(x, 0, 0, 1.0, 0, 1);
        Build.add(x, 0, 0, 0.5, 1, 2);
        Build.add(x, 0, 0, 0.5, 2, 1);
        Build.addBoth(x, 1, 1.0, 2);
        Check.same("8: three pins on the net", 4, x.join(0, SERIES));
        Check.same("8: two are parallel", 3, x.join(0, PARALLEL));
        Check.same("8: now it is the two's alone", 2, x.join(0, SERIES));
        Check.same("8: 1.0 and 0.5 and 0.5", 1, Build.runAgainst(x, 0, 0.5, 0, 2));
    }

    // "(of two such nets the lesser one)"
    private static void theLesserOfTwoNets() {
        int[][] pinsOfEach = {{2, 4, 2, 4}, {2, 4, 4, 2}, {4, 2, 2, 4}, {4, 2, 4, 2}};
        for (int[] pins : pinsOfEach) {
            GraphCompare x = forSeries();
            Build.add(x, 0, 0, 1.0, pins[0], pins[1]);
            Build.add(x, 0, 0, 1.0, pins[2], pins[3]);
            Check.same("8: one of a ring", 1, x.join(0, SERIES));
            Check.same("8: pin 0 is on the greater net", false, x.pin(0, 0, 0, 4));
            Check.same("8: and so is pin 1", false, x.pin(0, 0, 1, 4));
        }
    }

    // "the pin there of the lesser one comes to the other one's other net"
    private static void theOtherNetOfTheOtherOne() {
        int[][] rows = {{0, 1, 1, 2, 0, 2}, {0, 1, 2, 1, 0, 2}, {1, 0, 1, 2, 2, 0},
            {1, 0, 2, 1, 2, 0}, {5, 3, 3, 4, 5, 4}, {3, 5, 4, 3, 4, 5}};
        for (int[] row : rows) {
            GraphCompare x = forSeries();
            Build.add(x, 0, 0, 1.0, row[0], row[1]);
            Build.add(x, 0, 0, 1.0, row[2], row[3]);
            Check.same("8: one is left", 1, x.join(0, SERIES));
            Check.same("8: its pin 0", false, x.pin(0, 0, 0, row[4]));
            Check.same("8: its pin 1", false, x.pin(0, 0, 1, row[5]));
            Check.same("8: its pin 2", false, x.pin(0, 0, 2, NONE));
        }
    }

    // "always the pair with the least lesser number, then the least greater one"
    private static void seriesInOrder() {
        double a = 0.4;
        double b = 0.9;
        double c = 1.7;
        GraphCompare x = forSeries();
        Build.add(x, 0, 0, a, 1, 2);
        Build.add(x, 0, 0, b, 2, 3);
        Build.add(x, 0, 0, c, 0, 1);
        Check.same("8: 0 with both", 1, x.join(0, SERIES));
        Check.same("8: first with 1", 1,
            Build.runAgainst(x, 0, inSeries(inSeries(a, b), c), 0, 3));
        GraphCompare y = forSeries();
        Build.add(y, 0, 0, a, 0, 1);
        Build.add(y, 0, 0, b, 2, 3);
        Build.add(y, 0, 0, c, 1, 2);
        Check.same("8: 2 with both", 1, y.join(0, SERIES));
        Check.same("8: first with 0", 1,
            Build.runAgainst(y, 0, inSeries(inSeries(a, c), b), 0, 3));
        GraphCompare z = forSeries();
        // A ring of three: 0 and 1 share net 1, which goes; then 0 and 2 share two.
        Build.add(z, 0, 0, a, 0, 1);
        Build.add(z, 0, 0, b, 1, 2);
        Build.add(z, 0, 0, c, 2, 0);
        Check.same("8: a ring becomes one", 1, z.join(0, SERIES));
        Check.same("8: on the greater net of the last two", false, z.pin(0, 0, 0, 2));
        Check.same("8: with both pins", false, z.pin(0, 0, 1, 2));
    }

    // "the size is 1 / (1 / its own and 1 / the other one's), as doubles"
    private static void sizesOfSeries() {
        double[][] rows = {{2.0, 2.0, 1.0}, {0.1, 0.1, 0.05}, {0.1, 0.4, 0.08},
            {1000000.0, 1000000.0, 500000.0}, {1000000.0, TINY, 0.0}, {3.0, 6.0, 2.0},
            {1e-300, 1e-300, 5e-301}};
        for (double[] row : rows) {
            GraphCompare x = forSeries();
            Build.add(x, 0, 0, row[0], 0, 1);
            Build.add(x, 0, 0, row[1], 1, 2);
            x.join(0, SERIES);
            double due = inSeries(row[0], row[1]);
            Check.same("8: " + row[0] + " and " + row[1], row[2], due);
            if (due > 0.0) {
                Check.same("8: come to " + due, 1, Build.runAgainst(x, 0, due, 0, 2));
            }
        }
    }

    // 1 / a double next to nothing is no finite one: the two come to 0, as doubles
    private static void sizesNextToNothing() {
        GraphCompare x = forSeries();
        Build.add(x, 0, 0, TINY, 0, 1);
        Build.add(x, 0, 0, 4.0, 1, 2);
        Check.same("8: one of two", 1, x.join(0, SERIES));
        Build.add(x, 1, 0, TINY, 0, 2);
        Check.same("8: it is not the least double", 0, x.run(1));
        x.share(0, 0.25);
        Check.same("8: nor by a share of it", 0, x.run(1));
        x.share(0, 1.0);
        Check.same("8: but by all of it", 1, x.run(1));
        Build.add(x, 0, 0, 3.0, 2, 0);
        Check.same("8: 0 and 3 in parallel", 1, x.join(0, PARALLEL));
        x.share(0, 0.0);
        Build.add(x, 1, 0, 3.0, 3, 4);
        x.pin(1, 0, 0, 5);
        x.pin(1, 0, 1, 5);
        Build.add(x, 0, 0, TINY, 5, 5);
        Check.same("8: are 3", 1, x.run(2000));
        Check.same("8: and the other one is itself", "1 -1 -1 0", Build.devicePairs(x, 0, 4));
    }

    private static void rulesOneBehindAnother() {
        GraphCompare x = forSeries();
        // Two series pairs that are parallel, and one beside them.
        Build.add(x, 0, 0, 1.0, 0, 1);
        Build.add(x, 0, 0, 1.0, 2, 1);
        Build.add(x, 0, 0, 1.0, 0, 3);
        Build.add(x, 0, 0, 1.0, 3, 2);
        Build.add(x, 0, 0, 4.0, 2, 0);
        Check.same("8: nothing is parallel", 5, x.join(0, PARALLEL));
        Check.same("8: three behind series", 3, x.join(0, SERIES));
        Check.same("8: no more in series", 3, x.join(0, SERIES));
        Check.same("8: one behind parallel", 1, x.join(0, PARALLEL));
        Check.same("8: 0.5 and 0.5 and 4.0", 1, Build.runAgainst(x, 0, 5.0, 0, 2));
        Check.same("8: on nets 0 and 2", "0 -1 2", Build.netPairs(x, 3));
    }
}
