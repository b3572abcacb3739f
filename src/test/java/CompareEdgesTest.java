/**
 * The edges of comparing (section 2, promises 9 to 15): a test for each sentence of the document
 * that names one, with its words above it.
 */
public final class CompareEdgesTest {
    private static final int NONE = GraphCompare.NONE;
    private static final int LEAST = Integer.MIN_VALUE;
    private static final int MOST = Integer.MAX_VALUE;

    private CompareEdgesTest() {
    }

    public static void main(String[] args) {
        netsThatAreUsed();
        netsOfThoseThatAreGone();
        allAndOneToOne();
        kindsAreTheSame();
        sizesOfTheirOwnKindAgree();
        pinsOfEachGroup();
        portsOfTheSameName();
        theLeastDeviceFirst();
        theLeastNetFirst();
        netsOfHighNumbers();
        portsOfHighNumbers();
        firstNotGone();
        numbersOfTries();
        theMostTries();
        notAsManyDevices();
        notAsManyUsedNets();
        notTheSameNames();
        triesInOneClassAlone();
        triesOfThoseNotPairedOrGone();
        pairsThatDoNotFitAreTried();
        whatIsUndone();
        fitsByPortsAndPins();
        fitsByPinsOfEachGroup();
        fitsByPinsOfPairsBefore();
        fitsByFourNets();
        nothingIsKeptBehindZeroAndTwo();
        matchOfNone();
        matchOfThoseThatAreGone();
        netMatchOfNone();
        netMatchAsItWas();
        Check.finish("CompareEdgesTest");
    }

    // "A net is USED if a pin of a device that is not gone is on it, or it is a port."
    private static void netsThatAreUsed() {
        GraphCompare x = new GraphCompare();
        for (int i = 0; i < 40; i++) {
            x.net(0, 0);
        }
        Check.same("9: nets that are not used, beside none", 1, x.run(0));
        x.net(1, 0);
        for (int k = 0; k < 4; k++) {
            x = Build.withNets(3);
            Build.addBoth(x, 0, 1.0);
            x.pin(0, 0, k, 2);
            Check.same("9: one is used by pin " + k, 0, x.run(1));
            Check.same("12: by no other", "2,0,1,0;", Build.allDifferences(x));
            x.port(1, 1, 6);
            x.port(0, 2, 6);
            Check.same("9: the other one as a port", 0, x.run(1));
            x.port(0, 0, 7);
            x.port(1, 2, 7);
            Check.same("12: nets of pins and ports", 0, x.run(1));
            Check.same("12: classes differ alone", "4,0,1,0;4,0,0,1;", Build.allDifferences(x));
            x.pin(1, 0, k, 1);
            Check.same("9: a port without pins is used", 1, x.run(1));
            Check.same("11: and paired", "2 -1 1", Build.netPairs(x, 3));
            x.pin(0, 0, k, NONE);
            x.pin(1, 0, k, NONE);
            Check.same("9: ports alone", 1, x.run(1));
        }
    }

    private static void netsOfThoseThatAreGone() {
        GraphCompare x = Build.withNets(3);
        x.swap(0, 0, 1);
        Build.add(x, 0, 0, 2.0, 0, 1);
        Build.add(x, 0, 0, 2.0, 1, 2);
        Build.add(x, 1, 0, 1.0, 0, 1);
        Check.same("9: three nets and two", 0, x.run(1));
        Check.same("12: of as many devices, too", "1,0,2,1;2,0,3,2;", Build.allDifferences(x));
        x.join(0, 1);
        Check.same("9: net 1 is one of a pin that is gone", 1, x.run(1));
        Check.same("11: so it is not used", "0 -1 1", Build.netPairs(x, 3));
        x.port(0, 1, 0);
        x.port(1, 2, 0);
        Check.same("9: but as a port", 1, x.run(1));
        Check.same("11: it is", "0 2 1", Build.netPairs(x, 3));
    }

    // "A MATCH pairs devices that are not gone, and used nets, of both sides, all and one to one"
    private static void allAndOneToOne() {
        GraphCompare x = new GraphCompare();
        Check.same("9: none and none", 1, x.run(0));
        Check.same("15: are a match", true, x.tested());
        x.device(1, 0, 1.0);
        Check.same("9: none and one", 0, x.run(2000));
        x.device(0, 0, 1.0);
        Check.same("9: one and one", 1, x.run(1));
        x.device(0, 0, 1.0);
        Check.same("9: two and one", 0, x.run(2000));
        x.join(0, 0);
        x.share(0, 0.5);
        Check.same("9: but one is gone", 1, x.run(1));
        Check.same("10: of side 0", "0 -1", Build.devicePairs(x, 0, 2));
        Check.same("10: of side 1", "0", Build.devicePairs(x, 1, 1));
        GraphCompare y = Build.withNets(2);
        Build.add(y, 0, 0, 1.0, 0, 1);
        Build.add(y, 1, 0, 1.0, 0, 0);
        Check.same("9: two nets are not one", 0, y.run(1));
        Check.same("12: of which there is a difference", "2,0,2,1;", Build.allDifferences(y));
    }

    // "kinds are the same"
    private static void kindsAreTheSame() {
        GraphCompare x = new GraphCompare();
        for (int kind = 0; kind < 8; kind++) {
            x.device(0, kind, 1.0);
            x.device(1, 7 - kind, 1.0);
        }
        Check.same("9: eight kinds", 1, x.run(8));
        Check.same("10: each with its own", "7 6 5 4 3 2 1 0", Build.devicePairs(x, 0, 8));
        x.device(0, 0, 1.0);
        x.device(1, 7, 1.0);
        Check.same("9: one more of another kind", 0, x.run(2000));
        Check.same("12: of two", "1,0,2,1;1,7,1,2;", Build.allDifferences(x));
    }

    // "sizes agree": by the share of their kind, whatever their numbers
    private static void sizesOfTheirOwnKindAgree() {
        GraphCompare x = new GraphCompare();
        x.share(3, 0.5);
        x.device(0, 3, 4.0);
        x.device(0, 4, 4.0);
        x.device(1, 4, 4.0);
        x.device(1, 3, 8.0);
        Check.same("9: a share of kind 3", 1, x.run(2));
        Check.same("10: crossed", "1 0", Build.devicePairs(x, 0, 2));
        Check.same("15: a match", true, x.tested());
        x.share(3, 0.0);
        x.share(4, 0.5);
        Check.same("15: a share of kind 4", false, x.tested());
        Check.same("9: is none of kind 3", 0, x.run(2));
    }

    // "on paired nets are, of each two paired devices, as many pins of each group"
    private static void pinsOfEachGroup() {
        for (int most = 1; most <= 4; most++) {
            GraphCompare x = Build.withNets(2);
            for (int k = 1; k < 4; k++) {
                x.swap(0, 0, k);
            }
            Build.addBoth(x, 0, 1.0);
            for (int k = 0; k < most; k++) {
                x.pin(0, 0, k, 0);
                x.pin(1, 0, 3 - k, 1);
            }
            Check.same("9: " + most + " pins on a net", 1, x.run(1));
            x.pin(0, 0, most - 1, NONE);
            Check.same("9: one less", 0, x.run(1));
            x.pin(0, 0, most - 1, 0);
            x.pin(1, 0, 0, most == 4 ? NONE : 1);
            Check.same("9: one more or less", 0, x.run(1));
        }
        GraphCompare y = Build.withNets(2);
        y.swap(0, 0, 1);
        y.swap(0, 2, 3);
        Build.add(y, 0, 0, 1.0, 0, 0, 1, 1);
        Build.add(y, 1, 0, 1.0, 0, 1, 0, 1);
        Check.same("9: as many pins, but of other groups", 0, y.run(1));
        y.pin(1, 0, 1, 0);
        y.pin(1, 0, 2, 1);
        Check.same("9: of the same groups", 1, y.run(1));
    }

    // "ports are paired with ports of the same name"
    private static void portsOfTheSameName() {
        GraphCompare x = Build.withNets(2);
        Build.addBoth(x, 0, 1.0, 0, 1);
        x.port(0, 0, 0);
        x.port(1, 1, 0);
        Check.same("9: a port with one that is none", 0, x.run(2000));
        x.swap(0, 0, 1);
        Check.same("9: pins are like", 1, x.run(1));
        Check.same("11: ports go together", "1 0", Build.netPairs(x, 2));
        GraphCompare y = Build.withNets(2);
        y.swap(0, 0, 1);
        Build.addBoth(y, 0, 1.0, 0, 1);
        y.port(0, 1, 0);
        y.port(1, 0, 0);
        Check.same("9: the other net is a port", 1, y.run(1));
        Check.same("11: ports go together here, too", "1 0", Build.netPairs(y, 2));
        x.port(0, 1, MOST);
        x.port(1, 0, MOST);
        Check.same("9: two ports", 1, x.run(1));
        Check.same("11: each by its name", "1 0", Build.netPairs(x, 2));
        x.port(1, 0, MOST - 1);
        Check.same("9: another name", 0, x.run(1));
    }

    // "the least device for device 0 of side 0 ..., then for the next, and so on"
    private static void theLeastDeviceFirst() {
        GraphCompare x = new GraphCompare();
        for (int i = 0; i < 30; i++) {
            x.device(0, i % 2, 1.0);
            x.device(1, 1 - i % 2, 1.0);
        }
        Check.same("9: thirty", 1, x.run(30 * 31));
        for (int i = 0; i < 30; i++) {
            Check.same("10: the least one left", i % 2 == 0 ? i + 1 : i - 1, x.match(0, i));
        }
        // Sizes 4 and 8 agree, and 2 and 4: 0 could go with both, 1 with the first alone.
        GraphCompare y = new GraphCompare();
        y.share(0, 0.5);
        double[][] sizes = {{4.0, 2.0}, {8.0, 4.0}, {8.0, 8.0}};
        for (double[] pair : sizes) {
            y.device(0, 0, pair[0]);
            y.device(1, 0, pair[1]);
        }
        Check.same("9: by sizes", 1, y.run(2000));
        Check.same("10: 0 with the least", "0 1 2", Build.devicePairs(y, 0, 3));
        y.device(0, 0, 1.0);
        y.device(1, 0, 8.0);
        Check.same("9: one more, which goes with 0 alone", 1, y.run(2000));
        Check.same("10: 0 gives way", "1 2 3 0", Build.devicePairs(y, 0, 4));
    }

    // "then the least net for the least used net, and so on"
    private static void theLeastNetFirst() {
        GraphCompare x = Build.withNets(6);
        for (int k = 1; k < 4; k++) {
            x.swap(0, 0, k);
        }
        Build.add(x, 0, 0, 1.0, 4, 5, 1, 2);
        Build.add(x, 1, 0, 1.0, 5, 0, 3, 1);
        Check.same("9: four like nets", 1, x.run(1));
        Check.same("11: in order", "-1 0 1 -1 3 5", Build.netPairs(x, 6));
        x.pin(0, 0, 0, 5);
        x.pin(1, 0, 0, 1);
        Check.same("9: one with two pins", 1, x.run(1));
        Check.same("11: the others in order", "-1 0 3 -1 -1 1", Build.netPairs(x, 6));
    }

    // NETS 0 .. 39: those of one side may have numbers that the other side has none of
    private static void netsOfHighNumbers() {
        for (int side = 0; side < 2; side++) {
            GraphCompare x = Build.withNets(1);
            for (int i = 1; i < 40; i++) {
                x.net(side, 0);
            }
            Build.add(x, side, 0, 1.0, 39);
            Build.add(x, 1 - side, 0, 1.0, 0);
            Check.same("9: the last net with the first", 1, x.run(1));
            Check.same("11: is paired", side == 0 ? 0 : 39, x.netMatch(side == 0 ? 39 : 0));
            Check.same("15: a match", true, x.tested());
        }
    }

    // The last nets as ports: each beside another one, on which the first device is, too
    private static void portsOfHighNumbers() {
        GraphCompare x = Build.withNets(40);
        x.swap(1, 0, 1);
        Build.add(x, 0, 0, 1.0, 33, 34, 35, 36);
        Build.add(x, 1, 0, 1.0, 10, 11, 12, 13);
        for (int i = 1; i < 4; i++) {
            Build.add(x, 0, 1, 1.0, 33 + i, 40 - i);
            Build.add(x, 1, 1, 1.0, 10 + i, i);
            x.port(0, 40 - i, i);
            x.port(1, i, i);
        }
        Check.same("9: three ports", 1, x.run(4));
        for (int i = 1; i < 4; i++) {
            Check.same("11: a port", i, x.netMatch(40 - i));
            Check.same("11: the net beside it", 10 + i, x.netMatch(33 + i));
        }
        GraphCompare y = Build.withNets(40);
        y.swap(1, 0, 1);
        Build.add(y, 0, 0, 1.0, 36);
        Build.add(y, 1, 0, 1.0, 3);
        Build.add(y, 0, 1, 1.0, 36, 39);
        Build.add(y, 1, 1, 1.0, 3, 0);
        y.port(0, 39, 0);
        y.port(1, 0, 0);
        Check.same("9: one port", 1, y.run(2));
        Check.same("11: the last net", 0, y.netMatch(39));
        Check.same("11: the one beside it", 3, y.netMatch(36));
    }

    // "device 0 of side 0 (of those that are not gone)"
    private static void firstNotGone() {
        GraphCompare x = Build.withNets(2);
        Build.add(x, 0, 0, 1.0, 0);
        Build.add(x, 0, 0, 1.0, 1);
        Build.add(x, 0, 0, 1.0, 0);
        Build.add(x, 1, 0, 1.0, 0);
        Build.add(x, 1, 0, 1.0, 0);
        Build.add(x, 1, 0, 1.0, 1);
        x.join(0, 0);
        x.join(1, 0);
        Check.same("9: two of each, one gone on each side", 1, x.run(2));
        Check.same("10: of side 0", "0 2 -1", Build.devicePairs(x, 0, 3));
        Check.same("10: of side 1", "0 -1 1", Build.devicePairs(x, 1, 3));
    }

    // "tries are not 0 .. 2000"
    private static void numbersOfTries() {
        GraphCompare x = new GraphCompare();
        long[] wrong = {-1, 2001, Long.MIN_VALUE, Long.MAX_VALUE, LEAST, MOST, 1L << 32,
            (1L << 32) + 2000, -(1L << 32), (1L << 63) + 1};
        for (long tries : wrong) {
            Check.badArgument("9: " + tries + " tries", () -> x.run(tries));
        }
        for (long tries : new long[] {0, 1, 1999, 2000}) {
            Check.same("9: " + tries + " tries", 1, x.run(tries));
        }
    }

    /** Seven of kind 0 that take 1963 tries, and 23 of kind 7 that take 23 and so many more. */
    private static GraphCompare withManyTries(int more) {
        GraphCompare x = new GraphCompare();
        double[] first = {4.0, 8.0, 8.0, 8.0, 8.0, 8.0, 8.0};
        double[] second = {8.0, 8.0, 8.0, 2.0, 4.0, 8.0, 4.0};
        x.share(0, 0.5);
        for (int i = 0; i < first.length; i++) {
            x.device(0, 0, first[i]);
            x.device(1, 0, second[i]);
        }
        for (int i = 0; i < 23; i++) {
            x.device(0, 7, i + 1.0);
            x.device(1, 7, i == more ? 1.0 : i < more ? i + 2.0 : i + 1.0);
        }
        return x;
    }

    // "2 more than so many pairs were tried": at the most that can be asked for
    private static void theMostTries() {
        GraphCompare x = withManyTries(14);
        Check.same("9: 2000 tries do", 1, x.run(2000));
        Check.same("10: the last one of the first seven", 3, x.match(0, 0));
        Check.same("10: the last one of all", 29, x.match(0, 29));
        Check.same("9: 1999 do not", 2, x.run(1999));
        Check.same("9: 2001 would", 2, withManyTries(15).run(2000));
        GraphCompare y = new GraphCompare();
        int[] kinds = {0, 1, 0, 1, 0, 0, 0, 1};
        for (int i = 0; i < kinds.length; i++) {
            y.device(0, kinds[i], i == 6 ? 1.0 : 3.0);
            y.device(1, kinds[i], 3.0);
        }
        Check.same("9: none in 2000 tries", 0, y.run(2000));
        Check.same("12: the whole differs", "5,0,0,0;", Build.allDifferences(y));
        Check.same("9: in 1999 it is not known", 2, y.run(1999));
        Check.same("12: and nothing differs", "", Build.allDifferences(y));
    }

    // "if the sides have not as many devices that are not gone, ... nothing is tried"
    private static void notAsManyDevices() {
        GraphCompare x = new GraphCompare();
        x.device(0, 0, 1.0);
        Check.same("9: one and none", 0, x.run(0));
        x.device(1, 0, 1.0);
        Check.same("9: one and one are tried", 2, x.run(0));
        x.device(1, 0, 1.0);
        Check.same("9: one and two", 0, x.run(0));
        Check.same("12: of kind 0", "1,0,1,2;", Build.allDifferences(x));
        x.join(1, 0);
        Check.same("9: one that is gone does not count", 2, x.run(0));
        for (int i = 2; i < 30; i++) {
            x.device(1, 0, 1.0);
        }
        Check.same("9: one and a full side", 0, x.run(0));
        Check.same("12: 29 of them are not gone", "1,0,1,29;", Build.allDifferences(x));
    }

    // "or not as many used nets"
    private static void notAsManyUsedNets() {
        GraphCompare x = Build.withNets(40);
        Build.addBoth(x, 0, 1.0);
        x.pin(0, 0, 3, 39);
        Check.same("9: one and none", 0, x.run(0));
        Check.same("12: of nets", "2,0,1,0;", Build.allDifferences(x));
        x.pin(1, 0, 0, 0);
        // Kinds and counts are the same, classes are not: so there is none to try.
        Check.same("9: one and one, but none in the class", 0, x.run(0));
        Check.same("12: of classes", "4,0,1,0;4,0,0,1;", Build.allDifferences(x));
        x.pin(1, 0, 0, NONE);
        x.pin(1, 0, 3, 5);
        Check.same("9: one and one are tried", 2, x.run(0));
        x.pin(1, 0, 2, 6);
        Check.same("9: one and two", 0, x.run(0));
        Check.same("12: of nets again", "2,0,1,2;", Build.allDifferences(x));
        for (int i = 0; i < 40; i++) {
            x.port(0, i, i);
            x.port(1, i, i);
        }
        Check.same("9: all are used on both sides", 0, x.run(0));
        Check.same("12: but by other pins", "4,0,1,0;4,0,0,1;", Build.allDifferences(x));
    }

    // "or not the same names of ports"
    private static void notTheSameNames() {
        GraphCompare x = Build.withNets(2);
        Build.addBoth(x, 0, 1.0, 0, 1);
        x.port(0, 0, 0);
        Check.same("9: one port and none", 0, x.run(0));
        Check.same("12: of name 0", "3,0,1,0;", Build.allDifferences(x));
        x.port(1, 0, 1);
        Check.same("9: other names", 0, x.run(0));
        Check.same("12: of both", "3,0,1,0;3,1,0,1;", Build.allDifferences(x));
        x.port(1, 0, 0);
        Check.same("9: the same name: it is tried", 2, x.run(0));
        x.port(1, 1, 2);
        Check.same("9: none and a port", 0, x.run(0));
        Check.same("12: of name 2", "3,2,0,1;", Build.allDifferences(x));
        x.port(0, 1, MOST);
        Check.same("9: the greatest name", 0, x.run(0));
        Check.same("12: is the last", "3,2,0,1;3," + MOST + ",1,0;", Build.allDifferences(x));
    }

    // "it TRIES those of side 1, in order, that are ... in its class (by rounds)"
    private static void triesInOneClassAlone() {
        GraphCompare x = new GraphCompare();
        x.device(0, 0, 1.0);
        x.device(1, 1, 1.0);
        Check.same("9: of another kind: none is tried", 0, x.run(0));
        GraphCompare y = Build.withNets(30);
        for (int i = 0; i < 30; i++) {
            Build.add(y, 0, 0, 1.0, i);
            Build.add(y, 1, 0, 1.0, 29 - i);
            y.port(0, i, i);
            y.port(1, i, i);
        }
        Check.same("9: thirty classes, but no try for the last", 2, y.run(29));
        Check.same("9: a try for each", 1, y.run(30));
        Check.same("10: the last with the first", 0, y.match(0, 29));
    }

    // "that are not gone, not paired"
    private static void triesOfThoseNotPairedOrGone() {
        GraphCompare x = Build.withNets(30);
        for (int i = 0; i < 30; i++) {
            Build.add(x, 1, 0, 1.0, i / 2);
        }
        Check.same("8: fifteen are not gone", 15, x.join(1, 0));
        for (int i = 0; i < 15; i++) {
            Build.add(x, 0, 0, 2.0, i);
        }
        Check.same("9: fourteen tries do not", 2, x.run(14));
        Check.same("9: fifteen do", 1, x.run(15));
        Check.same("10: each second one", "0 2 4 6 8", Build.devicePairs(x, 0, 5));
        Check.same("10: of side 1", "0 -1 1 -1 2", Build.devicePairs(x, 1, 5));
    }

    // "A pair FITS if sizes agree": those that do not are tried all the same
    private static void pairsThatDoNotFitAreTried() {
        GraphCompare x = new GraphCompare();
        for (int i = 0; i < 30; i++) {
            x.device(0, 0, i + 1.0);
            x.device(1, 0, 30.0 - i);
        }
        // The first one fits the last, the next one the last but one, and so on.
        Check.same("9: 30 and 29 and 28 and so on", 1, x.run(465));
        Check.same("9: no less", 2, x.run(464));
        GraphCompare y = new GraphCompare();
        for (int i = 0; i < 30; i++) {
            y.device(0, 0, 1.0);
            y.device(1, 0, 2.0);
        }
        Check.same("9: the first one fits none", 0, y.run(30));
        Check.same("9: which takes thirty tries", 2, y.run(29));
    }

    // "when none fits (any more), the pair before is undone, and its device goes on"
    private static void whatIsUndone() {
        GraphCompare x = Build.withNets(4);
        // Two apart on side 0, sizes crossed on side 1: 0 fits both, 1 what is left of them.
        x.share(0, 0.5);
        Build.add(x, 0, 0, 4.0, 0, 1);
        Build.add(x, 0, 0, 8.0, 2, 3);
        Build.add(x, 1, 0, 4.0, 0, 1);
        Build.add(x, 1, 0, 2.0, 2, 3);
        // 0 with 0, 1 not with 1; 0 with 1, 1 with 0.
        Check.same("9: four tries", 1, x.run(4));
        Check.same("9: no less", 2, x.run(3));
        x.run(4);
        Check.same("10: crossed", "1 0", Build.devicePairs(x, 0, 2));
        Check.same("11: nets, too", "2 3 0 1", Build.netPairs(x, 4));
        x.pin(0, 1, 0, 0);
        x.pin(1, 1, 0, 0);
        // Both share net 0 now: the nets that were given at the pair undone are free again.
        Check.same("9: a net in common", 1, x.run(4));
        Check.same("11: is paired with it", "0 3 -1 1", Build.netPairs(x, 4));
    }

    // "used nets of both sides could be paired by the pins ... and by ports' names"
    private static void fitsByPortsAndPins() {
        GraphCompare x = Build.withNets(6);
        x.swap(0, 0, 1);
        // Two rings of three on side 0, one of six on side 1: classes do not tell them apart.
        for (int i = 0; i < 6; i++) {
            Build.add(x, 0, 0, 1.0, i, i / 3 * 3 + (i + 1) % 3);
            Build.add(x, 1, 0, 1.0, i, (i + 1) % 6);
        }
        Check.same("9: rings", 0, x.run(2000));
        Check.same("12: the whole", "5,0,0,0;", Build.allDifferences(x));
        // 0 with any of six; 1 with each of its two neighbours, not with three others; 2 with none.
        Check.same("9: 6 * (1 + 5 + 2 * 4) tries", 0, x.run(84));
        Check.same("9: no less", 2, x.run(83));
        Check.same("14: all are like", 6, x.tried());
        GraphCompare y = Build.withNets(4);
        y.swap(0, 0, 1);
        Build.addBoth(y, 0, 1.0, 0, 1);
        Build.addBoth(y, 0, 1.0, 2, 3);
        y.port(0, 3, 0);
        y.port(1, 1, 0);
        Check.same("9: one port", 1, y.run(2));
        Check.same("10: crossed by it", "1 0", Build.devicePairs(y, 0, 2));
        Check.same("11: its net, too", "2 3 0 1", Build.netPairs(y, 4));
    }

    // "(of each group)"; "as many of each sort on both sides"
    private static void fitsByPinsOfEachGroup() {
        GraphCompare x = Build.withNets(2);
        x.swap(0, 1, 3);
        // By rounds all are like: each net has as many pins of each group, of two like devices.
        Build.add(x, 0, 0, 1.0, 0, 0, 1, 0);
        Build.add(x, 0, 0, 1.0, 1, 1, 0, 1);
        Build.add(x, 1, 0, 1.0, 0, 1, 0, 1);
        Build.add(x, 1, 0, 1.0, 1, 0, 1, 0);
        Check.same("9: pins of other groups meet", 0, x.run(2));
        Check.same("12: the whole", "5,0,0,0;", Build.allDifferences(x));
        Check.same("14: two are like", 2, x.tried());
        GraphCompare y = Build.withNets(2);
        y.swap(0, 0, 1);
        Build.add(y, 0, 0, 1.0, 0, 0);
        Build.add(y, 0, 0, 1.0, 1, 1);
        Build.add(y, 1, 0, 1.0, 0, 1);
        Build.add(y, 1, 0, 1.0, 0, 1);
        Check.same("9: two pins on one net, or one on each of two", 0, y.run(2));
        Check.same("12: the whole", "5,0,0,0;", Build.allDifferences(y));
        GraphCompare z = Build.withNets(2);
        z.swap(0, 0, 1);
        Build.add(z, 0, 0, 1.0, 0, 1);
        Build.add(z, 0, 0, 1.0, 0, 1);
        Build.add(z, 1, 0, 1.0, 0, 0);
        Build.add(z, 1, 0, 1.0, 1, 1);
        Check.same("9: as well the other way round", 0, z.run(2));
    }

    // Nets that a pair before has told apart are not to be mixed up by the pins of the next one.
    private static void fitsByPinsOfPairsBefore() {
        GraphCompare x = Build.withNets(2);
        for (int net = 0; net < 2; net++) {
            Build.addBoth(x, 0, 1.0, net);
        }
        for (int net = 0; net < 2; net++) {
            Build.add(x, 0, 1, 1.0, NONE, net, 1 - net, net);
            Build.add(x, 1, 1, 1.0, NONE, 1 - net, net, net);
        }
        Check.same("9: pins 1 and 3 on a net, or 2 and 3", 0, x.run(8));
        Check.same("12: the whole", "5,0,0,0;", Build.allDifferences(x));
        // Two of kind 0 in two ways; in each the first of kind 1 with none of two.
        Check.same("9: 2 * (1 + 1 + 2) tries", 2, x.run(7));
    }

    private static void fitsByFourNets() {
        GraphCompare x = Build.withNets(12);
        for (int k = 1; k < 4; k++) {
            x.swap(0, 0, k);
        }
        // A ring of six on side 0, two of three on side 1, each next two with two nets in common.
        for (int i = 0; i < 6; i++) {
            int next = (i + 1) % 6;
            int other = i / 3 * 3 + (i + 1) % 3;
            Build.add(x, 0, 0, 1.0, 2 * i, 2 * i + 1, 2 * next, 2 * next + 1);
            Build.add(x, 1, 0, 1.0, 2 * i, 2 * i + 1, 2 * other, 2 * other + 1);
        }
        // 0 with any of six; 1 with two of five; 2 with none, for the two left share no net.
        Check.same("9: 6 * (1 + 5 + 2 * 4) tries", 0, x.run(84));
        Check.same("12: the whole", "5,0,0,0;", Build.allDifferences(x));
        Check.same("9: no less", 2, x.run(83));
        Check.same("13: rounds of the run before", 0, x.rounds());
    }

    // "the first one is kept"; "(behind 0, 2 no match is kept)"
    private static void nothingIsKeptBehindZeroAndTwo() {
        GraphCompare x = Build.withNets(1);
        Build.addBoth(x, 0, 1.0, 0);
        for (int answer = 0; answer < 3; answer += 2) {
            Check.same("9: found", 1, x.run(1));
            Check.same("9: kept", "0 0", x.match(0, 0) + " " + x.netMatch(0));
            Check.same("15: is one", true, x.tested());
            x.pin(1, 0, 0, answer == 0 ? NONE : 0);
            Check.same("9: answers " + answer, answer, x.run(0));
            x.pin(1, 0, 0, 0);
            Check.same("10: none of side 0", NONE, x.match(0, 0));
            Check.same("10: none of side 1", NONE, x.match(1, 0));
            Check.same("11: none of nets", NONE, x.netMatch(0));
            Check.same("15: none is kept", false, x.tested());
        }
    }

    // "NONE if ... no match is kept"; "IndexOutOfBoundsException"
    private static void matchOfNone() {
        GraphCompare x = Build.withNets(1);
        for (int side = 0; side < 2; side++) {
            final int s = side;
            Check.outOfBounds("10: there is none", () -> x.match(s, 0));
            x.device(s, 0, 1.0);
            Check.same("10: no match is kept", NONE, x.match(s, 0));
            for (int wrong : new int[] {-1, 1, 29, 30, LEAST, MOST}) {
                Check.outOfBounds("10: device " + wrong, () -> x.match(s, wrong));
            }
        }
        x.run(1);
        Check.same("10: now it is", 0, x.match(1, 0));
        x.device(1, 0, 1.0);
        Check.same("10: one that came behind it", NONE, x.match(1, 1));
        Check.outOfBounds("10: on side 0 there is none", () -> x.match(0, 1));
    }

    // "NONE if it is gone"; "(whatever has changed since it was found: that one may be gone)";
    // "IndexOutOfBoundsException (not if it is gone)"
    private static void matchOfThoseThatAreGone() {
        GraphCompare x = Build.withNets(2);
        Build.addBoth(x, 0, 1.0, 0);
        Build.addBoth(x, 0, 1.0, 1);
        x.run(2000);
        x.pin(1, 1, 0, 0);
        x.join(1, 0);
        Check.same("10: 1 of side 1 is gone", "0 -1", Build.devicePairs(x, 1, 2));
        Check.same("10: 1 of side 0 is still paired with it", "0 1", Build.devicePairs(x, 0, 2));
        x.pin(0, 1, 0, 0);
        x.join(0, 0);
        Check.same("10: that one is gone, too", "0 -1", Build.devicePairs(x, 0, 2));
        x.run(2000);
        Check.same("10: gone before it was found", "0 -1", Build.devicePairs(x, 0, 2));
        x.pin(0, 0, 0, NONE);
        x.swap(0, 0, 3);
        x.share(0, 1.0);
        x.port(1, 1, 1);
        Check.same("10: whatever has changed", "0 0", x.match(0, 0) + " " + x.match(1, 0));
    }

    // "With which one a net of side 0 is paired; NONE likewise"; "IndexOutOfBoundsException"
    private static void netMatchOfNone() {
        GraphCompare x = new GraphCompare();
        x.net(1, 0);
        for (int wrong : new int[] {-1, 0, 39, 40, LEAST, MOST}) {
            Check.outOfBounds("11: net " + wrong, () -> x.netMatch(wrong));
        }
        x.net(0, 0);
        Check.same("11: not compared", NONE, x.netMatch(0));
        x.run(0);
        Check.same("11: not used", NONE, x.netMatch(0));
        Check.outOfBounds("11: none such", () -> x.netMatch(1));
        x.port(0, 0, 0);
        x.run(0);
        Check.same("11: no match", NONE, x.netMatch(0));
        x.port(1, 0, 0);
        x.run(0);
        Check.same("11: a match", 0, x.netMatch(0));
    }

    // "or if it was not used"; whatever has changed since
    private static void netMatchAsItWas() {
        GraphCompare x = Build.withNets(3);
        x.swap(0, 0, 1);
        for (int side = 0; side < 2; side++) {
            Build.add(x, side, 0, 1.0, 0, 1);
            Build.add(x, side, 0, 1.0, 1, side);
            Build.add(x, side, 1, 1.0, side == 0 ? 0 : 1);
        }
        x.pin(1, 1, 0, 0);
        x.pin(1, 1, 1, 1);
        Check.same("9: two parallel ones", 1, x.run(2000));
        Check.same("11: of three nets", "1 0 -1", Build.netPairs(x, 3));
        x.pin(0, 0, 0, 2);
        x.pin(0, 1, 1, 2);
        x.pin(0, 2, 0, 2);
        Check.same("11: 2 was not used, 0 was", "1 0 -1", Build.netPairs(x, 3));
        x.join(0, 0);
        Check.same("11: devices that are gone do not matter", "1 0 -1", Build.netPairs(x, 3));
        x.net(0, 0);
        Check.same("11: a net that came behind it", NONE, x.netMatch(3));
    }
}
