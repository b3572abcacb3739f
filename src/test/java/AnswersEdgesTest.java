/**
 * The edges of what is answered about a comparison (promises 12 to 15, and the rounds): a test for
 * each sentence of the document that names one, with its words above it.
 */
public final class AnswersEdgesTest {
    private static final int NONE = GraphCompare.NONE;
    private static final int LEAST = Integer.MIN_VALUE;
    private static final int MOST = Integer.MAX_VALUE;

    private AnswersEdgesTest() {
    }

    public static void main(String[] args) {
        noneIfNotZero();
        noSuchDifferenceOrPart();
        theLatestRun();
        differencesOfKinds();
        differencesOfNets();
        differencesOfNames();
        classesOnlyIfThereAreNoneOfThese();
        classesInOrder();
        theWholeOnlyIfThereAreNoneOfThese();
        theMostDifferences();
        noRounds();
        roundsOfDevicesOrNetsAlone();
        classesAtFirst();
        roundsByGroups();
        roundsByClassesAndGroups();
        noRoundsOfOthers();
        classesAsTheyWereBefore();
        roundsOfBothSides();
        roundsOfTheLatestRun();
        triedWithAnotherOne();
        triedOfTheLatestRun();
        testedWithoutAMatch();
        testedAsSidesAreNow();
        testedPinByPin();
        testedWithOtherNumbers();
        testedAsGroupsAndSharesAreNow();
        testedWithoutThoseThatAreGone();
        testedWithoutNetsNotUsed();
        Check.finish("AnswersEdgesTest");
    }

    // "(there are none if it did not answer 0)"
    private static void noneIfNotZero() {
        GraphCompare x = new GraphCompare();
        Check.same("12: no run", "", Build.allDifferences(x));
        x.run(0);
        Check.same("12: it answered 1", "", Build.allDifferences(x));
        x.device(0, 0, 1.0);
        x.run(0);
        Check.same("12: it answered 0", "1,0,1,0;", Build.allDifferences(x));
        x.device(1, 0, 1.0);
        x.run(0);
        Check.same("12: it answered 2", "", Build.allDifferences(x));
        x.device(1, 0, 1.0);
        x.run(0);
        Check.same("12: 0 again", "1,0,1,2;", Build.allDifferences(x));
        x.device(0, 0, 1.0);
        x.run(2);
        Check.same("12: 1 again", "", Build.allDifferences(x));
    }

    // "IndexOutOfBoundsException: also when there is no such what."
    private static void noSuchDifferenceOrPart() {
        GraphCompare x = new GraphCompare();
        for (int k : new int[] {-1, 0, 1, LEAST, MOST, 1 << 30}) {
            Check.outOfBounds("12: none yet, not " + k, () -> x.differs(k, 0));
        }
        x.device(0, 0, 1.0);
        x.device(1, 1, 1.0);
        x.run(0);
        for (int k : new int[] {-1, 2, 3, 88, 89, LEAST, MOST, 1 << 30}) {
            Check.outOfBounds("12: two, not " + k, () -> x.differs(k, 0));
        }
        for (int what : new int[] {-1, 4, 5, LEAST, MOST}) {
            Check.outOfBounds("12: what " + what + " of the first", () -> x.differs(0, what));
            Check.outOfBounds("12: what " + what + " of the last", () -> x.differs(1, what));
            Check.outOfBounds("12: what " + what + " of none", () -> x.differs(2, what));
        }
        Check.same("12: both", "1,0,1,0;1,1,0,1;", Build.allDifferences(x));
    }

    // "Of difference k of the latest run()": what changes behind it does not matter
    private static void theLatestRun() {
        GraphCompare x = Build.withNets(1);
        x.device(0, 0, 1.0);
        x.run(0);
        x.device(1, 0, 1.0);
        x.port(0, 0, 1);
        x.join(0, 0);
        Check.same("12: as it was", "1,0,1,0;", Build.allDifferences(x));
        x.run(0);
        Check.same("12: as it is", "2,0,1,0;3,1,1,0;", Build.allDifferences(x));
        x.run(0);
        Check.same("12: and is once more", "2,0,1,0;3,1,1,0;", Build.allDifferences(x));
    }

    // "1, for each kind, by numbers, of which the sides have not as many devices"
    private static void differencesOfKinds() {
        GraphCompare x = new GraphCompare();
        for (int kind = 7; kind >= 0; kind--) {
            x.device(kind % 2, kind, 1.0);
        }
        x.run(0);
        Check.same("12: all kinds",
            "1,0,1,0;1,1,0,1;1,2,1,0;1,3,0,1;1,4,1,0;1,5,0,1;1,6,1,0;1,7,0,1;",
            Build.allDifferences(x));
        for (int kind = 1; kind < 7; kind++) {
            x.device(1 - kind % 2, kind, 1.0);
        }
        x.run(2000);
        Check.same("12: the first and the last", "1,0,1,0;1,7,0,1;", Build.allDifferences(x));
        for (int i = 0; i < 5; i++) {
            x.device(0, 0, 1.0);
        }
        x.run(0);
        Check.same("12: six of them", "1,0,6,0;1,7,0,1;", Build.allDifferences(x));
        x.join(0, 0);
        x.run(2000);
        Check.same("12: five are gone", "1,0,1,0;1,7,0,1;", Build.allDifferences(x));
    }

    // "2, if they have not as many used nets"
    private static void differencesOfNets() {
        GraphCompare x = Build.withNets(40);
        Build.addBoth(x, 0, 1.0, 0, 1, 2, 3);
        Build.addBoth(x, 0, 1.0, 0, 1, 2, 3);
        Check.same("9: four nets", 1, x.run(2));
        x.pin(1, 1, 3, 2);
        Check.same("9: still four", 0, x.run(2000));
        Check.same("12: none of nets", "4,0,2,0;4,0,0,1;4,1,0,1;", Build.allDifferences(x));
        x.pin(1, 0, 3, 2);
        x.run(0);
        Check.same("12: four and three", "2,0,4,3;", Build.allDifferences(x));
        for (int net = 3; net < 40; net++) {
            x.port(1, net, net);
            x.port(0, net, net);
        }
        x.pin(1, 0, 2, 0);
        x.pin(1, 1, 2, 0);
        x.pin(1, 0, 3, 1);
        x.pin(1, 1, 3, 1);
        x.run(0);
        Check.same("12: 40 and 39", "2,0,40,39;", Build.allDifferences(x));
    }

    // "3, for each name, the least first, that is not that of as many ports"
    private static void differencesOfNames() {
        GraphCompare x = Build.withNets(4);
        int[][] names = {{MOST, 5, 0, 9}, {9, 6, MOST - 1, 0}};
        for (int side = 0; side < 2; side++) {
            for (int net = 0; net < 4; net++) {
                x.port(side, net, names[side][net]);
            }
        }
        x.run(0);
        Check.same("12: neither 0 nor 9",
            "3,5,1,0;3,6,0,1;3," + (MOST - 1) + ",0,1;3," + MOST + ",1,0;",
            Build.allDifferences(x));
        x.port(0, 2, 1);
        x.port(1, 1, 5);
        x.port(1, 2, MOST);
        x.run(0);
        Check.same("12: 0 is one of side 1 alone", "3,0,0,1;3,1,1,0;", Build.allDifferences(x));
    }

    // "and if there are none of these: 4"
    private static void classesOnlyIfThereAreNoneOfThese() {
        GraphCompare x = Build.withNets(3);
        Build.addBoth(x, 0, 1.0, 0);
        Build.addBoth(x, 0, 1.0, 1);
        x.port(0, 0, 6);
        x.port(1, 0, 6);
        x.pin(1, 1, 1, 1);
        x.run(2000);
        Check.same("12: classes alone, and not those of the port", "4,1,1,0;4,1,0,1;",
            Build.allDifferences(x));
        x.port(0, 2, 5);
        x.run(0);
        Check.same("12: nets and names", "2,0,3,2;3,5,1,0;", Build.allDifferences(x));
        x.port(1, 2, 7);
        x.run(0);
        Check.same("12: names alone", "3,5,1,0;3,7,0,1;", Build.allDifferences(x));
        x.port(0, 2, 7);
        x.device(0, 3, 1.0);
        x.run(0);
        Check.same("12: kinds alone", "1,3,1,0;", Build.allDifferences(x));
        x.device(1, 3, 1.0);
        x.pin(1, 1, 2, 2);
        x.pin(1, 1, 0, 2);
        x.pin(1, 1, 1, 2);
        x.run(0);
        Check.same("12: nets alone", "2,0,3,2;", Build.allDifferences(x));
    }

    // "4, for each class of devices (by rounds) of which the sides have not as many (by the least
    // device of side 0 in it, then, those without one, by that of side 1)"
    private static void classesInOrder() {
        GraphCompare x = Build.withNets(6);
        // Each has a net of its own; its class is told by the pins that are on it (as bits).
        int[] first = {3, 1, 2, 1, 3, 4};
        int[] second = {4, 2, 4, 1, 1, 8};
        for (int i = 0; i < 6; i++) {
            x.device(0, 0, 1.0);
            x.device(1, 0, 1.0);
            for (int k = 0; k < 4; k++) {
                x.pin(0, i, k, (first[i] >> k & 1) == 1 ? i : NONE);
                x.pin(1, i, k, (second[i] >> k & 1) == 1 ? i : NONE);
            }
        }
        x.run(0);
        Check.same("12: by side 0, then by side 1", "4,0,2,0;4,5,1,2;4,5,0,1;",
            Build.allDifferences(x));
        x.pin(0, 0, 0, NONE);
        x.pin(0, 0, 1, NONE);
        x.pin(0, 0, 3, 0);
        x.run(2000);
        Check.same("12: one of each is not told", "4,4,1,0;4,5,1,2;", Build.allDifferences(x));
    }

    // "if there are none of these, either: 5."; "(5: 0)"
    private static void theWholeOnlyIfThereAreNoneOfThese() {
        GraphCompare x = new GraphCompare();
        x.device(0, 0, 1.0);
        x.device(1, 0, 2.0);
        x.run(1);
        Check.same("12: sizes", "5,0,0,0;", Build.allDifferences(x));
        x.device(0, 1, 1.0);
        x.device(1, 2, 1.0);
        x.run(1);
        Check.same("12: kinds, too", "1,1,1,0;1,2,0,1;", Build.allDifferences(x));
        GraphCompare y = Build.withNets(1);
        Build.add(y, 0, 0, 1.0, 0);
        Build.add(y, 1, 0, 2.0, NONE, 0);
        y.run(1);
        Check.same("12: classes, too", "4,0,1,0;4,0,0,1;", Build.allDifferences(y));
    }

    private static void theMostDifferences() {
        GraphCompare x = Build.withNets(30);
        for (int i = 0; i < 30; i++) {
            Build.add(x, 0, 0, 1.0, i);
            Build.add(x, 1, 0, 1.0, NONE, i);
            x.port(0, i, i);
            x.port(1, i, i);
        }
        x.run(0);
        String all = Build.allDifferences(x);
        Check.same("12: sixty classes", 60, all.split(";").length);
        Check.same("12: the 30th", "4,29,1,0", all.split(";")[29]);
        Check.same("12: the 31st", "4,0,0,1", all.split(";")[30]);
        Check.same("12: the last", "4,29,0,1", all.split(";")[59]);
        x.run(0);
        Check.same("12: and once more", all, Build.allDifferences(x));
        Check.same("13: one round", 1, x.rounds());
    }

    // "0 without one."; "ROUNDS counts those behind which there were more"
    private static void noRounds() {
        GraphCompare x = Build.withNets(3);
        Check.same("13: no run", 0, x.rounds());
        x.run(0);
        Check.same("13: nothing there", 0, x.rounds());
        Build.addBoth(x, 0, 1.0);
        x.run(0);
        Check.same("13: a run that answered 2", 0, x.rounds());
        x.run(1);
        Check.same("13: one class", 0, x.rounds());
        Build.addBoth(x, 1, 1.0);
        x.port(0, 2, 0);
        x.port(1, 2, 0);
        x.run(2);
        Check.same("13: kinds and ports are told before", 0, x.rounds());
        x.pin(0, 0, 0, 2);
        x.pin(1, 0, 0, 2);
        x.run(2);
        Check.same("13: classes of one", 0, x.rounds());
    }

    // "as long as there are more classes (of devices and nets) behind one than before it"
    private static void roundsOfDevicesOrNetsAlone() {
        GraphCompare x = Build.withNets(2);
        Build.addBoth(x, 0, 1.0, 0, 1);
        Check.same("9: like", 1, x.run(1));
        Check.same("13: nets alone", 1, x.rounds());
        GraphCompare y = Build.withNets(1);
        Build.addBoth(y, 0, 1.0, 0);
        Build.addBoth(y, 0, 1.0);
        Check.same("9: like", 1, y.run(2));
        Check.same("13: devices alone", 1, y.rounds());
        GraphCompare z = Build.withNets(3);
        // Nets are told by their pins, then devices by their nets, and then there is no more.
        z.swap(0, 0, 1);
        Build.addBoth(z, 0, 1.0, 0, 1);
        Build.addBoth(z, 0, 1.0, 1, 2);
        Build.addBoth(z, 0, 1.0, 2, 2);
        Check.same("9: like", 1, z.run(3));
        Check.same("13: by turns", 2, z.rounds());
        Check.same("14: none is like another", 0, z.tried());
    }

    // "devices (not gone, of both sides) are in classes by kinds, used nets in one class, ports in
    // one for each name"
    private static void classesAtFirst() {
        GraphCompare x = Build.withNets(4);
        for (int i = 0; i < 4; i++) {
            Build.addBoth(x, 0, 1.0, i);
        }
        x.run(4);
        Check.same("13: used nets are one class", 0, x.rounds());
        Check.same("14: so all are like", 4, x.tried());
        x.port(0, 3, 0);
        x.port(1, 1, 0);
        x.run(4);
        Check.same("13: a port is one for itself", 1, x.rounds());
        Check.same("14: the others are like", 3, x.tried());
        Check.same("10: the port's go together", "0 2 3 1", Build.devicePairs(x, 0, 4));
        x.port(0, 2, MOST);
        x.port(1, 0, MOST);
        x.run(4);
        Check.same("13: so is another port", 1, x.rounds());
        Check.same("14: two are like", 2, x.tried());
        GraphCompare y = Build.withNets(2);
        for (int kind = 0; kind < 8; kind++) {
            Build.addBoth(y, kind, 1.0, kind % 2);
        }
        y.run(8);
        Check.same("13: nets by kinds", 1, y.rounds());
        Check.same("14: kinds are not like", 0, y.tried());
    }

    // "of a device, in each group, pins on nets of the same classes, each as often; of a net, pins
    // of each group of devices of the same classes, each as often"
    private static void roundsByGroups() {
        GraphCompare x = Build.withNets(2);
        Build.addBoth(x, 0, 1.0, 0);
        Build.addBoth(x, 0, 1.0, NONE, 1);
        x.run(2);
        Check.same("13: pins of two groups", 1, x.rounds());
        Check.same("14: tell devices", 0, x.tried());
        x.swap(0, 0, 1);
        x.run(2);
        Check.same("13: of one group", 0, x.rounds());
        Check.same("14: they do not", 2, x.tried());
        x.pin(0, 1, 0, 1);
        x.pin(1, 1, 0, 1);
        x.run(2);
        Check.same("13: not as often", 1, x.rounds());
        Check.same("14: tells them again", 0, x.tried());
        GraphCompare y = Build.withNets(2);
        Build.addBoth(y, 0, 1.0, 0, 1);
        Build.addBoth(y, 0, 1.0, 0, 1);
        y.swap(0, 0, 1);
        y.run(2);
        Check.same("13: two nets with two pins each", 0, y.rounds());
        Build.addBoth(y, 0, 1.0, 0, 0);
        y.run(3);
        Check.same("13: one with two more, then its device", 2, y.rounds());
        Check.same("14: two are like", 2, y.tried());
    }

    private static void roundsByClassesAndGroups() {
        GraphCompare x = Build.withNets(2);
        Build.addBoth(x, 0, 1.0, NONE, 0);
        Build.addBoth(x, 1, 1.0, 1);
        x.run(2);
        Check.same("13: pin 1 of one kind, pin 0 of the next", 1, x.rounds());
        GraphCompare y = Build.withNets(3);
        Build.addBoth(y, 0, 1.0, 2, 0, 0);
        Build.addBoth(y, 0, 1.0, 1, 1, 0);
        for (int net = 0; net < 3; net++) {
            y.port(0, net, net);
            y.port(1, net, net);
        }
        y.run(2);
        Check.same("13: pins of three groups on three ports", 1, y.rounds());
        Check.same("14: tell the two", 0, y.tried());
    }

    // "devices (not gone ...)", "used nets": no others are in a class
    private static void noRoundsOfOthers() {
        GraphCompare x = Build.withNets(1);
        Build.addBoth(x, 0, 1.0, 0);
        Build.addBoth(x, 0, 1.0, 0);
        x.join(0, 0);
        x.join(1, 0);
        Check.same("9: one and one", 1, x.run(1));
        Check.same("13: none of those that are gone", 0, x.rounds());
        GraphCompare y = Build.withNets(40);
        Build.addBoth(y, 0, 1.0, 7);
        Check.same("9: one and one", 1, y.run(1));
        Check.same("13: none of nets that are not used", 0, y.rounds());
        Build.addBoth(y, 0, 1.0, 9);
        Check.same("9: two and two", 1, y.run(2));
        Check.same("13: used nets are alike", 0, y.rounds());
        y.pin(0, 1, 0, 7);
        y.pin(1, 1, 0, 7);
        Check.same("9: one net less", 1, y.run(2));
        Check.same("13: one that was used is not any more", 0, y.rounds());
    }

    // "(classes of both as they were before the round)"
    private static void classesAsTheyWereBefore() {
        for (int length = 1; length <= 30; length++) {
            GraphCompare x = Build.withNets(length + 1);
            for (int i = 0; i < length; i++) {
                Build.addBoth(x, 0, 1.0, i, i + 1);
            }
            x.port(0, 0, 0);
            x.port(1, 0, 0);
            Check.same("9: a chain of " + length, 1, x.run(length));
            // Round 1 tells the first device by the port, and the last net; each round then tells
            // the next net or device from both ends, until one of each is left between them.
            Check.same("13: its rounds", length - 1, x.rounds());
            x.swap(0, 0, 1);
            Check.same("9: with like pins", 1, x.run(length));
            Check.same("13: from the port and the end", length - 1, x.rounds());
        }
    }

    // "ROUNDS": classes are those of both sides, also where nothing is tried
    private static void roundsOfBothSides() {
        for (int side = 0; side < 2; side++) {
            GraphCompare x = Build.withNets(6);
            for (int i = 0; i < 5; i++) {
                Build.add(x, side, 0, 1.0, i, i + 1);
            }
            Check.same("9: an empty side", 0, x.run(0));
            Check.same("13: rounds of side " + side, 5, x.rounds());
            x.device(1 - side, 0, 1.0);
            Check.same("9: too few on the other one", 0, x.run(0));
            Check.same("13: rounds all the same", 5, x.rounds());
        }
        GraphCompare y = Build.withNets(1);
        Build.add(y, 0, 0, 1.0, 0);
        Build.add(y, 1, 0, 1.0, NONE, 0);
        Check.same("9: one on each side", 0, y.run(0));
        Check.same("13: told from one another", 1, y.rounds());
    }

    // "ROUNDS of the latest run() that did not answer 2 (also where nothing is tried)"
    private static void roundsOfTheLatestRun() {
        GraphCompare x = Build.withNets(3);
        Build.addBoth(x, 0, 1.0, 0, 1);
        Build.addBoth(x, 0, 1.0, 1, 2);
        Check.same("9: found", 1, x.run(2));
        Check.same("13: two rounds", 2, x.rounds());
        x.pin(0, 1, 1, NONE);
        x.pin(1, 1, 1, NONE);
        Check.same("13: as they were", 2, x.rounds());
        Check.same("9: too many tries", 2, x.run(1));
        Check.same("13: not those of this run", 2, x.rounds());
        Check.same("9: enough", 1, x.run(2));
        Check.same("13: one now", 1, x.rounds());
        Check.badArgument("9: a run that throws", () -> x.run(-1));
        Check.same("13: is no run", 1, x.rounds());
        x.pin(0, 0, 1, NONE);
        Check.same("9: none is in the class", 0, x.run(0));
        Check.same("13: two again", 2, x.rounds());
        x.pin(0, 0, 1, 1);
        x.device(0, 1, 1.0);
        Check.same("9: nothing is tried", 0, x.run(0));
        Check.same("13: one again", 1, x.rounds());
    }

    // "How many devices of side 0 were, ..., in a class with another one of side 0."
    private static void triedWithAnotherOne() {
        GraphCompare x = new GraphCompare();
        x.run(0);
        Check.same("14: none", 0, x.tried());
        x.device(1, 0, 1.0);
        x.device(1, 0, 1.0);
        x.run(0);
        Check.same("14: of side 1 alone", 0, x.tried());
        x.device(0, 0, 1.0);
        x.run(0);
        Check.same("14: one, with two of side 1", 0, x.tried());
        x.device(0, 0, 2.0);
        x.run(0);
        Check.same("14: two that were not compared", 0, x.tried());
        x.run(2000);
        Check.same("14: two, of other sizes, too", 2, x.tried());
        x.device(0, 1, 1.0);
        x.device(0, 1, 1.0);
        x.device(0, 2, 1.0);
        x.run(0);
        Check.same("14: two and two of two classes", 4, x.tried());
        for (int i = 5; i < 30; i++) {
            x.device(0, 0, 1.0);
        }
        x.run(0);
        Check.same("14: all but one", 29, x.tried());
        x.join(0, 0);
        x.run(0);
        Check.same("14: not those that are gone", 0, x.tried());
    }

    // "that run()": the latest one that did not answer 2
    private static void triedOfTheLatestRun() {
        GraphCompare x = new GraphCompare();
        Build.addBoth(x, 0, 1.0);
        Build.addBoth(x, 0, 1.0);
        Check.same("14: no run", 0, x.tried());
        x.run(1);
        Check.same("14: one that answered 2", 0, x.tried());
        x.run(2);
        Check.same("14: one that answered 1", 2, x.tried());
        Build.addBoth(x, 0, 1.0);
        Check.same("14: as it was", 2, x.tried());
        x.run(2);
        Check.same("14: not behind 2", 2, x.tried());
        Check.badArgument("9: a run that throws", () -> x.run(2001));
        Check.same("14: is no run", 2, x.tried());
        x.run(3);
        Check.same("14: three", 3, x.tried());
        x.join(0, 0);
        Check.same("14: three were", 3, x.tried());
        x.run(0);
        Check.same("14: where nothing is tried", 0, x.tried());
    }

    // "Whether a match is kept"
    private static void testedWithoutAMatch() {
        GraphCompare x = new GraphCompare();
        Check.same("15: not compared", false, x.tested());
        x.device(0, 0, 1.0);
        x.run(0);
        Check.same("15: none was found", false, x.tested());
        x.device(1, 0, 1.0);
        Check.same("15: nor is, without a run", false, x.tested());
        x.run(0);
        Check.same("15: nor behind 2", false, x.tested());
        x.run(1);
        Check.same("15: but behind 1", true, x.tested());
        Check.badArgument("9: a run that throws", () -> x.run(2001));
        Check.same("15: changes nothing", true, x.tested());
        GraphCompare y = new GraphCompare();
        y.run(0);
        Check.same("15: an empty match", true, y.tested());
        y.net(0, 0);
        y.swap(0, 0, 1);
        y.share(0, 1.0);
        y.join(0, 0);
        Check.same("15: of nothing, still", true, y.tested());
        y.port(0, 0, 0);
        Check.same("15: of a port no more", false, y.tested());
    }

    // "and is one, as both sides ... are now"
    private static void testedAsSidesAreNow() {
        for (int side = 0; side < 2; side++) {
            GraphCompare x = Build.withNets(3);
            Build.addBoth(x, 0, 1.0, 0, 1);
            x.port(0, 0, 0);
            x.port(1, 0, 0);
            Check.same("9: found", 1, x.run(1));
            x.pin(side, 0, 1, 2);
            Check.same("15: a pin on another net", false, x.tested());
            x.pin(side, 0, 1, 0);
            Check.same("15: on one that is paired", false, x.tested());
            x.pin(side, 0, 1, NONE);
            Check.same("15: on none", false, x.tested());
            x.pin(side, 0, 1, 1);
            x.pin(side, 0, 2, 1);
            Check.same("15: one pin more", false, x.tested());
            x.pin(side, 0, 2, NONE);
            Check.same("15: back again", true, x.tested());
            x.port(side, 0, 1);
            Check.same("15: another name", false, x.tested());
            x.port(side, 0, 0);
            x.port(side, 1, 1);
            Check.same("15: one port more", false, x.tested());
            x.port(1 - side, 1, 1);
            Check.same("15: on both sides", true, x.tested());
            x.net(side, 0);
            Check.same("15: a net that is not used", true, x.tested());
            x.port(side, 3, 5);
            Check.same("15: used", false, x.tested());
            GraphCompare y = new GraphCompare();
            Build.addBoth(y, 0, 1.0);
            y.run(1);
            y.device(side, 0, 1.0);
            Check.same("15: one device more", false, y.tested());
            y.join(side, 0);
            Check.same("15: that is gone, but the sum stays", false, y.tested());
            y.share(0, 0.5);
            Check.same("15: which agrees now", true, y.tested());
        }
    }

    private static void testedPinByPin() {
        for (int side = 0; side < 2; side++) {
            GraphCompare x = Build.withNets(4);
            Build.addBoth(x, 0, 1.0, 0, 1, 2, 3);
            Build.addBoth(x, 1, 1.0, 0, 1, 2, 3);
            Check.same("9: found", 1, x.run(2));
            for (int k = 0; k < 4; k++) {
                for (int net = NONE; net < 4; net++) {
                    x.pin(side, 0, k, net);
                    String what = "15: pin " + k + " of side " + side + " on net " + net;
                    Check.same(what, net == k, x.tested());
                }
                x.pin(side, 0, k, k);
            }
        }
    }

    private static void testedWithOtherNumbers() {
        GraphCompare x = Build.withNets(6);
        x.swap(1, 0, 1);
        int[] places = {3, 5, 0, 1, 4, 2};
        for (int i = 0; i < 3; i++) {
            int kind = i % 2;
            Build.add(x, 0, kind, 1.0, 2 * i, 2 * i + 1, i);
        }
        for (int i = 2; i >= 0; i--) {
            int kind = i % 2;
            Build.add(x, 1, kind, 1.0, places[2 * i], places[2 * i + 1], places[i]);
        }
        Check.same("9: found", 1, x.run(2000));
        Check.same("10: in another order", "2 1 0", Build.devicePairs(x, 0, 3));
        Check.same("11: on other nets", "3 5 0 1 4 2", Build.netPairs(x, 6));
        Check.same("15: a match", true, x.tested());
        x.pin(1, 1, 0, places[3]);
        x.pin(1, 1, 1, places[2]);
        Check.same("15: like pins are exchanged", true, x.tested());
        x.pin(1, 0, 0, places[5]);
        x.pin(1, 0, 1, places[4]);
        Check.same("15: pins that are not like", false, x.tested());
        GraphCompare y = Build.withNets(4);
        for (int i = 0; i < 2; i++) {
            Build.add(y, 0, i, 1.0, 2 * i, 2 * i + 1);
            Build.add(y, 1, 1 - i, 1.0, 2 - 2 * i, 3 - 2 * i);
        }
        Check.same("9: crossed, but for nets", 1, y.run(2));
        Check.same("15: a match", true, y.tested());
        y.pin(1, 1, 0, 1);
        y.pin(1, 1, 1, 0);
        Check.same("15: pins of one are exchanged", false, y.tested());
    }

    // "groups, shares are now"
    private static void testedAsGroupsAndSharesAreNow() {
        GraphCompare x = Build.withNets(2);
        Build.add(x, 0, 0, 4.0, 0, 1);
        Build.add(x, 1, 0, 8.0, 0, 1);
        x.share(0, 0.5);
        Check.same("9: found", 1, x.run(1));
        x.share(0, Math.nextDown(0.5));
        Check.same("15: a bit less", false, x.tested());
        x.share(0, 1.0);
        Check.same("15: all agree", true, x.tested());
        x.share(1, 0.0);
        Check.same("15: of another kind", true, x.tested());
        x.pin(1, 0, 0, 1);
        x.pin(1, 0, 1, 0);
        Check.same("15: pins of two groups", false, x.tested());
        x.swap(1, 0, 1);
        Check.same("15: of another kind they are one", false, x.tested());
        x.swap(0, 0, 1);
        Check.same("15: of this kind, too", true, x.tested());
    }

    // "(its pairs of devices that are gone ... are left out)"
    private static void testedWithoutThoseThatAreGone() {
        GraphCompare x = new GraphCompare();
        double[][] sizes = {{1.0, 1.0}, {2.0, 2.0}};
        Check.same("15: the same ones stay", true, testedBehindJoins(sizes));
        double[][] crossed = {{1.0, 2.0}, {2.0, 1.0}};
        Check.same("15: 0 is paired with one that is gone", false, testedBehindJoins(crossed));
        x.run(0);
        x.device(0, 0, 1.0);
        x.device(0, 0, 1.0);
        x.join(0, 0);
        Check.same("15: one is gone, one is not, none is paired", false, x.tested());
        for (int side = 0; side < 2; side++) {
            GraphCompare y = new GraphCompare();
            y.share(0, 0.5);
            Build.addBoth(y, 0, 1.0);
            Build.addBoth(y, 0, 1.0);
            y.run(2);
            y.join(side, 0);
            Check.same("15: sizes agree, but one is paired with none", false, y.tested());
            y.join(1 - side, 0);
            Check.same("15: that one is gone, too", true, y.tested());
        }
    }

    private static boolean testedBehindJoins(double[][] sizes) {
        GraphCompare x = new GraphCompare();
        for (double[] pair : sizes) {
            x.device(0, 0, pair[0]);
            x.device(1, 0, pair[1]);
        }
        Check.same("9: found", 1, x.run(2000));
        Check.same("15: as it was found", true, x.tested());
        x.join(0, 0);
        Check.same("15: gone on one side", false, x.tested());
        x.join(1, 0);
        return x.tested();
    }

    // "(its pairs ... of nets that are not used, are left out)"
    private static void testedWithoutNetsNotUsed() {
        GraphCompare x = Build.withNets(3);
        Build.add(x, 0, 0, 1.0, 0, 1);
        Build.add(x, 1, 0, 1.0, 2, 1);
        Check.same("9: found", 1, x.run(1));
        x.pin(0, 0, 0, NONE);
        Check.same("15: not used on side 0", false, x.tested());
        x.pin(1, 0, 0, NONE);
        Check.same("15: nor on side 1", true, x.tested());
        x.pin(0, 0, 0, 0);
        Check.same("15: not used on side 1", false, x.tested());
        x.pin(1, 0, 0, 2);
        Check.same("15: on both again", true, x.tested());
        x.pin(0, 0, 0, 1);
        x.pin(1, 0, 0, 1);
        Check.same("15: another pair alone", true, x.tested());
        Check.same("11: what is left out is still paired", "2 1 -1", Build.netPairs(x, 3));
        x.pin(0, 0, 0, 2);
        x.pin(1, 0, 0, 0);
        Check.same("15: two nets that were not used", false, x.tested());
    }
}
