/**
 * The edges of the designs (section 1, promises 1 to 7): a test for each sentence of the document
 * that names one, with its words above it.
 */
public final class DesignEdgesTest {
    private static final int NONE = GraphCompare.NONE;
    private static final int LEAST = Integer.MIN_VALUE;
    private static final int MOST = Integer.MAX_VALUE;
    private static final double TINY = 4.9e-324;

    private DesignEdgesTest() {
    }

    public static void main(String[] args) {
        emptySides();
        nothingWasCompared();
        twoSides();
        sidesAreApart();
        fortyNets();
        namesOfNetsDoNotMatter();
        thirtyDevices();
        devicesThatAreGoneCount();
        eightKinds();
        sizesAboveNothing();
        pinsOnNoNetAtFirst();
        fourPins();
        eachPinOnANetOrOnNone();
        anotherNetThanBefore();
        noPinsOfThoseThatAreGone();
        groupsAloneAtFirst();
        groupsMakePinsLike();
        swapMakesGroupsOne();
        groupsOfAKindAlone();
        sharesFromNothingToOne();
        anotherShareThanBefore();
        shareIsNothingAtFirst();
        shareOfTheGreaterSize();
        sharesAsDoubles();
        portNames();
        portNamesOfASide();
        portInPlaceOfTheOneBefore();
        Check.finish("DesignEdgesTest");
    }

    // "Empty sides"
    private static void emptySides() {
        GraphCompare x = new GraphCompare();
        for (int s = 0; s < 2; s++) {
            final int side = s;
            Check.outOfBounds("1: no device", () -> x.match(side, 0));
            Check.outOfBounds("1: no pin", () -> x.pin(side, 0, 0, NONE));
            Check.outOfBounds("1: no net", () -> x.port(side, 0, 0));
            Check.same("1: none in parallel", 0, x.join(side, 0));
            Check.same("1: none in series", 0, x.join(side, 1));
        }
        Check.outOfBounds("1: no net to be paired", () -> x.netMatch(0));
    }

    // "nothing was compared"
    private static void nothingWasCompared() {
        GraphCompare x = new GraphCompare();
        Check.outOfBounds("1: no difference", () -> x.differs(0, 0));
        Check.same("1: no rounds", 0, x.rounds());
        Check.same("1: none tried", 0, x.tried());
        Check.same("1: no match", false, x.tested());
        Build.addBoth(x, 0, 1.0);
        x.net(0, 0);
        Check.same("1: no pair", NONE, x.match(0, 0));
        Check.same("1: none of side 1", NONE, x.match(1, 0));
        Check.same("1: none of nets", NONE, x.netMatch(0));
    }

    // "There are two SIDES, 0 and 1."
    private static void twoSides() {
        GraphCompare x = Build.withNets(2);
        Build.addBoth(x, 0, 1.0, 0);
        for (int wrong : new int[] {-1, 2, LEAST, MOST}) {
            Check.outOfBounds("net, side " + wrong, () -> x.net(wrong, 0));
            Check.outOfBounds("device, side " + wrong, () -> x.device(wrong, 0, 1.0));
            Check.outOfBounds("pin, side " + wrong, () -> x.pin(wrong, 0, 0, 0));
            Check.outOfBounds("port, side " + wrong, () -> x.port(wrong, 0, 0));
            Check.outOfBounds("join, side " + wrong, () -> x.join(wrong, 0));
            Check.outOfBounds("match, side " + wrong, () -> x.match(wrong, 0));
        }
    }

    // "its number on its side", "whether it was none" and the like: each side for itself
    private static void sidesAreApart() {
        GraphCompare x = new GraphCompare();
        Check.same("2: first of side 0", 0, x.net(0, 0));
        Check.same("2: second of side 0", 1, x.net(0, 0));
        Check.same("2: first of side 1", 0, x.net(1, 0));
        Check.same("3: first of side 1", 0, x.device(1, 0, 1.0));
        Check.same("3: second of side 1", 1, x.device(1, 0, 1.0));
        Check.same("3: first of side 0", 0, x.device(0, 0, 1.0));
        Check.outOfBounds("4: a device of side 1 alone", () -> x.pin(0, 1, 0, 0));
        Check.outOfBounds("4: a net of side 0 alone", () -> x.pin(1, 0, 0, 1));
        Check.outOfBounds("7: a net of side 0 alone", () -> x.port(1, 1, 0));
        Check.outOfBounds("10: a device of side 1 alone", () -> x.match(0, 1));
        Check.same("4: of side 0", true, x.pin(0, 0, 2, 0));
        Check.same("4: of side 1", true, x.pin(1, 0, 2, 0));
        Check.same("8: of side 1", 2, x.join(1, 0));
        Check.same("8: of side 0", 1, x.join(0, 0));
    }

    // "NETS 0 .. 39"; "there are as many as there can be"
    private static void fortyNets() {
        GraphCompare x = new GraphCompare();
        for (int i = 0; i < 40; i++) {
            Check.same("2: number " + i, i, x.net(1, i));
        }
        Check.badState("2: the 41st", () -> x.net(1, 0));
        Check.badState("2: once more", () -> x.net(1, 0));
        Check.same("2: side 0 is not full", 0, x.net(0, 0));
        Build.addBoth(x, 0, 1.0);
        Check.same("4: on the last one", true, x.pin(1, 0, 3, 39));
        Check.outOfBounds("4: on none such", () -> x.pin(1, 0, 3, 40));
        Check.same("7: the last one", true, x.port(1, 39, 0));
        Check.outOfBounds("7: none such", () -> x.port(1, 40, 1));
        for (int i = 1; i < 40; i++) {
            x.net(0, 0);
        }
        Check.badState("2: the 41st of side 0", () -> x.net(0, 0));
        x.pin(0, 0, 3, 39);
        x.port(0, 39, 0);
        Check.same("11: the last ones", 1, x.run(1));
        Check.same("11: are paired", 39, x.netMatch(39));
        Check.outOfBounds("11: none such", () -> x.netMatch(40));
    }

    // "with a name (a hint; it does not matter here)"; "the name is below 0"
    private static void namesOfNetsDoNotMatter() {
        GraphCompare x = new GraphCompare();
        Check.badArgument("2: -1", () -> x.net(0, -1));
        Check.badArgument("2: the least", () -> x.net(0, LEAST));
        Check.same("2: 0", 0, x.net(0, 0));
        Check.same("2: the most", 1, x.net(0, MOST));
        Check.same("2: the same name", 2, x.net(0, MOST));
        Check.same("2: the name of another side's", 0, x.net(1, 0));
        x.net(1, 5);
        x.net(1, 0);
        Build.add(x, 0, 0, 1.0, 0, 1);
        Build.add(x, 1, 0, 1.0, 1, 0);
        Check.same("9: other names", 1, x.run(1));
        Check.same("11: by pins, not by names", "1 0 -1", Build.netPairs(x, 3));
        Check.same("7: nor are those names of ports", true, x.port(0, 2, 0));
    }

    // "DEVICES 0 .. 29"; "there are as many as there can be"
    private static void thirtyDevices() {
        GraphCompare x = Build.withNets(1);
        for (int i = 0; i < 30; i++) {
            Check.same("3: number " + i, i, x.device(0, i % 8, i + 1.0));
        }
        Check.badState("3: the 31st", () -> x.device(0, 0, 1.0));
        Check.badState("3: once more", () -> x.device(0, 0, 1.0));
        Check.same("3: side 1 is not full", 0, x.device(1, 0, 1.0));
        Check.same("4: the last one", true, x.pin(0, 29, 0, 0));
        Check.outOfBounds("4: none such", () -> x.pin(0, 30, 0, 0));
        Check.outOfBounds("4: -1", () -> x.pin(0, -1, 0, 0));
        Check.outOfBounds("4: the least", () -> x.pin(0, LEAST, 0, 0));
        Check.outOfBounds("4: the most", () -> x.pin(0, MOST, 0, 0));
        Check.same("10: the last one", NONE, x.match(0, 29));
        Check.outOfBounds("10: none such", () -> x.match(0, 30));
        for (int i = 1; i < 30; i++) {
            x.device(1, 0, 1.0);
        }
        Check.badState("3: the 31st of side 1", () -> x.device(1, 0, 1.0));
    }

    // "there are as many as there can be (devices that are gone, too)"
    private static void devicesThatAreGoneCount() {
        GraphCompare x = new GraphCompare();
        for (int i = 0; i < 29; i++) {
            x.device(1, 0, 1.0);
        }
        Check.same("3: all are one", 1, x.join(1, 0));
        Check.same("3: the next number", 29, x.device(1, 0, 1.0));
        Check.same("3: one again", 1, x.join(1, 0));
        Check.badState("3: those that are gone count", () -> x.device(1, 0, 1.0));
        Check.same("3: not those of side 1", 0, x.device(0, 0, 1.0));
    }

    // "of a KIND 0 .. 7"
    private static void eightKinds() {
        GraphCompare x = new GraphCompare();
        for (int wrong : new int[] {-1, 8, LEAST, MOST}) {
            Check.outOfBounds("3: kind " + wrong, () -> x.device(0, wrong, 1.0));
            Check.outOfBounds("5: kind " + wrong, () -> x.swap(wrong, 0, 1));
            Check.outOfBounds("6: kind " + wrong, () -> x.share(wrong, 0.5));
        }
        for (int kind = 0; kind < 8; kind++) {
            Check.same("3: kind " + kind, kind, x.device(0, kind, 1.0));
            Check.same("5: kind " + kind, true, x.swap(kind, 0, 3));
            Check.same("6: kind " + kind, true, x.share(kind, 0.5));
        }
        Check.same("8: each of another kind", 8, x.join(0, 0));
    }

    // "with a SIZE (a double above 0, at most 1000000)"
    private static void sizesAboveNothing() {
        GraphCompare x = new GraphCompare();
        double[] wrong = {0.0, -0.0, -TINY, -1.0, Math.nextUp(1000000.0), 1000001.0,
            Double.MAX_VALUE, Double.POSITIVE_INFINITY, Double.NEGATIVE_INFINITY, Double.NaN};
        for (double size : wrong) {
            Check.badArgument("3: size " + size, () -> x.device(1, 0, size));
        }
        double[] right = {TINY, Double.MIN_NORMAL, Math.nextDown(1000000.0), 1000000.0};
        for (int i = 0; i < right.length; i++) {
            Check.same("3: size " + right[i], i, x.device(1, 0, right[i]));
            x.device(0, 0, right[right.length - 1 - i]);
        }
        Check.same("3: each is told from the others", 1, x.run(2000));
        Check.same("3: by its size", "3 2 1 0", Build.devicePairs(x, 0, 4));
    }

    // "A new device, all pins on no net"
    private static void pinsOnNoNetAtFirst() {
        GraphCompare x = Build.withNets(1);
        for (int d = 0; d < 2; d++) {
            x.device(0, 0, 1.0);
            for (int k = 0; k < 4; k++) {
                Check.same("3: pin " + k + " is on none", false, x.pin(0, d, k, NONE));
            }
            x.pin(0, d, 3, 0);
            x.join(0, 0);
            x.pin(0, 0, 3, NONE);
        }
        Check.same("3: one behind two that are joined", 2, x.device(0, 0, 1.0));
        for (int k = 0; k < 4; k++) {
            Check.same("3: its pin " + k + " is on none", false, x.pin(0, 2, k, NONE));
        }
    }

    // "and PINS 0 .. 3"
    private static void fourPins() {
        GraphCompare x = Build.withNets(1);
        x.device(0, 0, 1.0);
        for (int wrong : new int[] {-1, 4, LEAST, MOST}) {
            Check.outOfBounds("4: pin " + wrong, () -> x.pin(0, 0, wrong, 0));
            Check.outOfBounds("5: first pin " + wrong, () -> x.swap(0, wrong, 0));
            Check.outOfBounds("5: second pin " + wrong, () -> x.swap(0, 0, wrong));
            Check.outOfBounds("5: both pins " + wrong, () -> x.swap(0, wrong, wrong));
        }
        for (int k = 0; k < 4; k++) {
            Check.same("4: pin " + k, true, x.pin(0, 0, k, 0));
            Check.same("5: pin " + k, k > 0, x.swap(0, 0, k));
        }
    }

    // "each on a net or on none"; "A pin comes to a net, or (NONE) to none"
    private static void eachPinOnANetOrOnNone() {
        GraphCompare x = Build.withNets(3);
        x.device(0, 0, 1.0);
        for (int wrong : new int[] {-2, 3, LEAST, MOST}) {
            Check.outOfBounds("4: net " + wrong, () -> x.pin(0, 0, 0, wrong));
        }
        for (int net = 0; net < 3; net++) {
            Check.same("4: net " + net, true, x.pin(0, 0, 0, net));
        }
        Check.same("4: none", true, x.pin(0, 0, 0, NONE));
        GraphCompare y = new GraphCompare();
        y.device(0, 0, 1.0);
        Check.outOfBounds("4: there is no net", () -> y.pin(0, 0, 0, 0));
        Check.same("4: there is always none", false, y.pin(0, 0, 0, NONE));
    }

    // "whether that is another one than before"
    private static void anotherNetThanBefore() {
        GraphCompare x = Build.withNets(2);
        Build.add(x, 0, 0, 1.0, 0, 0, 1, 1);
        Build.add(x, 0, 0, 1.0, 1, 1, 1, 1);
        for (int k = 0; k < 4; k++) {
            int now = k < 2 ? 0 : 1;
            Check.same("4: the same", false, x.pin(0, 0, k, now));
            Check.same("4: another", true, x.pin(0, 0, k, 1 - now));
            Check.same("4: that again", false, x.pin(0, 0, k, 1 - now));
            Check.same("4: none", true, x.pin(0, 0, k, NONE));
            Check.same("4: none again", false, x.pin(0, 0, k, NONE));
            Check.same("4: back", true, x.pin(0, 0, k, now));
            Check.same("4: of another device", false, x.pin(0, 1, k, 1));
        }
    }

    // "or a device is gone"
    private static void noPinsOfThoseThatAreGone() {
        GraphCompare x = Build.withNets(1);
        for (int i = 0; i < 3; i++) {
            x.device(1, i == 1 ? 1 : 0, 1.0);
        }
        Check.same("4: two stay", 2, x.join(1, 0));
        for (int k = 0; k < 4; k++) {
            final int pin = k;
            Check.outOfBounds("4: the last one is gone", () -> x.pin(1, 2, pin, 0));
            Check.outOfBounds("4: to none, too", () -> x.pin(1, 2, pin, NONE));
            Check.same("4: one before it is not", true, x.pin(1, 1, pin, 0));
        }
    }

    // "Pins of a kind are in GROUPS: each alone at first"
    private static void groupsAloneAtFirst() {
        for (int kind = 0; kind < 8; kind++) {
            for (int a = 0; a < 4; a++) {
                for (int b = 0; b < 4; b++) {
                    GraphCompare x = new GraphCompare();
                    String pins = kind + ": " + a + " and " + b;
                    Check.same("5: not one yet, kind " + pins, a != b, x.swap(kind, a, b));
                    Check.same("5: one now, kind " + pins, false, x.swap(kind, b, a));
                }
            }
        }
    }

    // "as many pins of each group": pins of one group are like, those of two are not
    private static void groupsMakePinsLike() {
        for (int a = 0; a < 4; a++) {
            for (int b = 0; b < 4; b++) {
                GraphCompare x = Build.withNets(1);
                Build.addBoth(x, 7, 1.0);
                x.pin(0, 0, a, 0);
                x.pin(1, 0, b, 0);
                Check.same("5: " + a + " is " + b, a == b ? 1 : 0, x.run(2000));
                x.swap(7, a, b);
                Check.same("5: " + a + " is like " + b, 1, x.run(2000));
            }
        }
    }

    // "The groups of two pins of a kind are one: whether they were not."
    private static void swapMakesGroupsOne() {
        GraphCompare x = new GraphCompare();
        Check.same("5: a pin with itself", false, x.swap(4, 3, 3));
        Check.same("5: 3 and 1", true, x.swap(4, 3, 1));
        Check.same("5: 1 and 3", false, x.swap(4, 1, 3));
        Check.same("5: 0 and 2", true, x.swap(4, 0, 2));
        Check.same("5: two groups of two", true, x.swap(4, 3, 2));
        for (int a = 0; a < 4; a++) {
            for (int b = 0; b < 4; b++) {
                Check.same("5: all are one", false, x.swap(4, a, b));
            }
        }
        GraphCompare y = new GraphCompare();
        y.swap(4, 1, 2);
        Check.same("5: 0 is in no group of others", true, y.swap(4, 0, 3));
        Check.same("5: a third pin", true, y.swap(4, 2, 0));
        Check.same("5: through it", false, y.swap(4, 1, 3));
    }

    // "two pins of a kind": what is one for a kind is not for another one
    private static void groupsOfAKindAlone() {
        GraphCompare x = Build.withNets(1);
        for (int kind = 0; kind < 8; kind++) {
            if (kind != 6) {
                x.swap(kind, 0, 1);
            }
        }
        Build.add(x, 0, 6, 1.0, 0);
        Build.add(x, 1, 6, 1.0, NONE, 0);
        Check.same("5: two groups of this kind", 0, x.run(2000));
        Check.same("5: not one yet", true, x.swap(6, 0, 1));
        Check.same("5: now they are", 1, x.run(2000));
    }

    // "v is not 0 .. 1 (also if it is no number)"
    private static void sharesFromNothingToOne() {
        GraphCompare x = new GraphCompare();
        double[] wrong = {-TINY, -1.0, Math.nextUp(1.0), 2.0, Double.MAX_VALUE,
            Double.POSITIVE_INFINITY, Double.NEGATIVE_INFINITY, Double.NaN};
        for (double v : wrong) {
            Check.badArgument("6: share " + v, () -> x.share(7, v));
        }
        double[] right = {TINY, Math.nextDown(1.0), 1.0, 0.0};
        for (double v : right) {
            Check.same("6: share " + v, true, x.share(7, v));
        }
    }

    // "whether it is another one than before (-0.0 is 0.0)"
    private static void anotherShareThanBefore() {
        GraphCompare x = new GraphCompare();
        Check.same("6: -0.0 at first", false, x.share(2, -0.0));
        Check.same("6: 0.0 behind it", false, x.share(2, 0.0));
        Check.same("6: next to nothing is another", true, x.share(2, TINY));
        Check.same("6: the same", false, x.share(2, TINY));
        Check.same("6: -0.0 is another", true, x.share(2, -0.0));
        Check.same("6: 0.0 is none", false, x.share(2, 0.0));
        Check.same("6: 0.5", true, x.share(2, 0.5));
        Check.same("6: the next double", true, x.share(2, Math.nextUp(0.5)));
        Check.same("6: of each kind its own", true, x.share(3, 0.5));
        Check.same("6: that is not changed", false, x.share(2, Math.nextUp(0.5)));
        GraphCompare y = new GraphCompare();
        Build.addBoth(y, 0, 1.0);
        y.share(0, 1.0);
        y.share(0, -0.0);
        Check.same("6: by -0.0 the same size agrees", 1, y.run(1));
        y.device(0, 1, 1.0);
        y.device(1, 1, Math.nextUp(1.0));
        y.share(1, -0.0);
        Check.same("6: by -0.0 no other", 0, y.run(2));
    }

    // "its SHARE (0 at first)"
    private static void shareIsNothingAtFirst() {
        for (int kind = 0; kind < 8; kind++) {
            GraphCompare x = new GraphCompare();
            Check.same("6: it is 0.0", false, x.share(kind, 0.0));
            x.device(0, kind, 8.0);
            x.device(1, kind, Math.nextUp(8.0));
            Check.same("6: the next size", 0, x.run(2000));
            x.share(kind, Math.ulp(8.0) / 8.0);
            Check.same("6: is a small share off", 1, x.run(2000));
        }
    }

    private static int compareSizes(double a, double b, double share) {
        GraphCompare x = new GraphCompare();
        x.device(0, 0, a);
        x.device(1, 0, b);
        x.share(0, share);
        int answer = x.run(1);
        GraphCompare y = new GraphCompare();
        y.device(0, 0, b);
        y.device(1, 0, a);
        y.share(0, share);
        Check.same("6: as well the other way round", answer, y.run(1));
        return answer;
    }

    // "SIZES of a kind agree if they differ by no more than its SHARE times the greater one"
    private static void shareOfTheGreaterSize() {
        Check.same("6: just as much", 1, compareSizes(8.0, 6.0, 0.25));
        Check.same("6: a bit less", 0, compareSizes(8.0, 6.0, Math.nextDown(0.25)));
        Check.same("6: a bit more", 1, compareSizes(8.0, 6.0, Math.nextUp(0.25)));
        Check.same("6: half of the greater", 1, compareSizes(4.0, 8.0, 0.5));
        Check.same("6: and no less", 0,
            compareSizes(Math.nextDown(Math.nextDown(4.0)), 8.0, 0.5));
        Check.same("6: more than half of the lesser", 1, compareSizes(5.0, 8.0, 0.5));
        Check.same("6: all agree by 1", 1, compareSizes(TINY, 1000000.0, 1.0));
        Check.same("6: not by the share below", 0,
            compareSizes(TINY, 1000000.0, Math.nextDown(1.0)));
        Check.same("6: nothing off", 1, compareSizes(1000000.0, 1000000.0, 0.0));
        Check.same("6: next to nothing off", 0, compareSizes(TINY, 2 * TINY, 0.0));
    }

    // "(as doubles)": where the doubles and what they stand for do not say the same
    private static void sharesAsDoubles() {
        Check.same("6: 1.0 - 0.3 is 0.7", 1, compareSizes(1.0, 0.3, 0.7));
        Check.same("6: 2.0 - 0.1 is 1.9", 1, compareSizes(2.0, 0.1, 0.95));
        Check.same("6: 0.3 - 0.2 is below 0.1", 1, compareSizes(0.3, 0.2, 0.1 / 0.3));
        Check.same("6: 1.1 - 1.0 is above 0.1", 0, compareSizes(1.1, 1.0, 0.1 / 1.1));
        Check.same("6: the double below 4.0 is 4.0 from 8.0", 1,
            compareSizes(Math.nextDown(4.0), 8.0, 0.5));
        // A quarter of twice the least double is 0, a half of it the least double.
        Check.same("6: a product comes to 0", 0, compareSizes(TINY, 2 * TINY, 0.25));
        Check.same("6: a product comes to the least", 1, compareSizes(TINY, 2 * TINY, 0.5));
    }

    // "a PORT, with a name (a number from 0 on)"; "the name is below 0"
    private static void portNames() {
        GraphCompare x = Build.withNets(4);
        Check.badArgument("7: -1", () -> x.port(0, 0, -1));
        Check.badArgument("7: the least", () -> x.port(0, 0, LEAST));
        Check.same("7: 0; there was none", true, x.port(0, 0, 0));
        Check.same("7: the most", true, x.port(0, 1, MOST));
        Check.badArgument("7: -1 in place of a name", () -> x.port(0, 0, -1));
        Check.same("7: whose name stays", false, x.port(0, 0, 0));
        for (int wrong : new int[] {-1, 4, LEAST, MOST}) {
            Check.outOfBounds("7: net " + wrong, () -> x.port(0, wrong, 5));
        }
        x.port(1, 2, 0);
        x.port(1, 3, MOST);
        Check.same("7: names of both sides", 1, x.run(0));
        Check.same("7: go together", "2 3 -1 -1", Build.netPairs(x, 4));
    }

    // "the name is below 0, or that of another port of the side"
    private static void portNamesOfASide() {
        GraphCompare x = Build.withNets(3);
        x.port(0, 2, 7);
        Check.badArgument("7: of one behind it", () -> x.port(0, 0, 7));
        x.port(0, 0, 8);
        Check.badArgument("7: of one before it", () -> x.port(0, 2, 8));
        Check.badArgument("7: not a port yet", () -> x.port(0, 1, 8));
        Check.same("7: its own", false, x.port(0, 2, 7));
        Check.same("7: of a port of side 1 it may be", true, x.port(1, 1, 8));
        Check.badArgument("7: there as well", () -> x.port(1, 0, 8));
    }

    // "A net is a port with a name (in place of the one before): whether it was none."
    private static void portInPlaceOfTheOneBefore() {
        GraphCompare x = Build.withNets(2);
        Check.same("7: none before", true, x.port(0, 0, 0));
        Check.same("7: 0 before", false, x.port(0, 0, 3));
        Check.same("7: 0 is free", true, x.port(0, 1, 0));
        Check.badArgument("7: 3 is not", () -> x.port(0, 1, 3));
        Check.same("7: 3 before", false, x.port(0, 0, 4));
        Check.same("7: now it is", false, x.port(0, 1, 3));
        x.port(1, 0, 3);
        x.port(1, 1, 4);
        Check.same("7: the latest names count", 1, x.run(0));
        Check.same("7: for both", "1 0", Build.netPairs(x, 2));
    }
}
