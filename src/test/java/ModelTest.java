import java.util.ArrayList;
import java.util.Collections;
import java.util.List;
import java.util.Map;
import java.util.Random;
import java.util.function.Supplier;

/** Many runs of calls, made by seeded chance, answered by GraphCompare as by the model. */
public final class ModelTest {
    private static final int CALLS = 512;

    private final Random chance;
    private final GraphCompare program = new GraphCompare();
    private final Model model = new Model();
    private final String name;
    private int calls = 0;

    private ModelTest(String name, long seed) {
        this.name = name;
        chance = new Random(seed);
    }

    public static void main(String[] args) {
        int[] answers = new int[3];
        for (int seed = 0; seed < 1500; seed++) {
            new ModelTest("chance " + seed, seed).callByChance();
        }
        for (int seed = 0; seed < 3000; seed++) {
            new ModelTest("copy " + seed, seed).compareCopies(2 + seed % 4, 2 + seed % 5, answers);
        }
        for (int seed = 0; seed < 400; seed++) {
            new ModelTest("large " + seed, seed).compareCopies(8 + seed % 23, 4 + seed % 37, answers);
        }
        for (int seed = 0; seed < 2000; seed++) {
            new ModelTest("cover " + seed, seed).compareCovers(2 + seed % 2, answers);
        }
        for (int seed = 0; seed < 60; seed++) {
            new ModelTest("ring " + seed, seed).compareRings(3 + seed % 28);
        }
        for (int answer = 0; answer < 3; answer++) {
            Check.same("runs that answer " + answer + " come up", true, answers[answer] > 20);
        }
        Check.finish("ModelTest");
    }

    private void ask(String call, Supplier<Object> ofProgram, Supplier<Object> ofModel) {
        calls++;
        Check.same(name + ", call " + calls + ", " + call, Check.answer(ofModel), Check.answer(ofProgram));
    }

    private int below(int bound) {
        return chance.nextInt(bound);
    }

    /** Mostly a number below a bound, at times one that is off. */
    private int about(int bound) {
        switch (below(40)) {
            case 0: return -1;
            case 1: return bound;
            case 2: return below(2) == 0 ? Integer.MAX_VALUE : Integer.MIN_VALUE;
            default: return below(Math.max(bound, 1));
        }
    }

    private void net(int side, int hint) {
        ask("net(" + side + ", " + hint + ")",
            () -> program.net(side, hint), () -> model.net(side, hint));
    }

    private void device(int side, int kind, double size) {
        ask("device(" + side + ", " + kind + ", " + size + ")",
            () -> program.device(side, kind, size), () -> model.device(side, kind, size));
    }

    private void pin(int side, int device, int k, int net) {
        ask("pin(" + side + ", " + device + ", " + k + ", " + net + ")",
            () -> program.pin(side, device, k, net), () -> model.pin(side, device, k, net));
    }

    private void swap(int kind, int a, int b) {
        ask("swap(" + kind + ", " + a + ", " + b + ")",
            () -> program.swap(kind, a, b), () -> model.swap(kind, a, b));
    }

    private void share(int kind, double v) {
        ask("share(" + kind + ", " + v + ")",
            () -> program.share(kind, v), () -> model.share(kind, v));
    }

    private void port(int side, int net, int hint) {
        ask("port(" + side + ", " + net + ", " + hint + ")",
            () -> program.port(side, net, hint), () -> model.port(side, net, hint));
    }

    private void join(int side, int rule) {
        ask("join(" + side + ", " + rule + ")",
            () -> program.join(side, rule), () -> model.join(side, rule));
    }

    private void run(long tries) {
        ask("run(" + tries + ")", () -> program.run(tries), () -> model.run(tries));
    }

    private void tested() {
        ask("tested()", program::tested, model::tested);
    }

    private void askAll() {
        ask("rounds()", program::rounds, model::rounds);
        ask("tried()", program::tried, model::tried);
        tested();
        for (int side = 0; side < 2; side++) {
            final int s = side;
            for (int i = 0; i <= model.sides[s].devices.size(); i++) {
                final int d = i;
                ask("match(" + s + ", " + d + ")",
                    () -> program.match(s, d), () -> model.match(s, d));
            }
        }
        for (int i = 0; i <= model.sides[0].ports.size(); i++) {
            final int n = i;
            ask("netMatch(" + n + ")", () -> program.netMatch(n), () -> model.netMatch(n));
        }
        for (int i = 0; i <= model.differences.size(); i++) {
            for (int j = 0; j <= 4; j++) {
                final int k = i;
                final int what = j;
                ask("differs(" + k + ", " + what + ")",
                    () -> program.differs(k, what), () -> model.differs(k, what));
            }
        }
    }

    private void callByChance() {
        int kinds = 1 + below(3);
        int mostNets = 2 + below(5);
        double[] sizes = {1, 1, 2, 3, 0.1, 1e6, 4.9e-324, 0, -1, 1000001, Double.NaN};
        double[] shares = {0, -0.0, 0.5, 1, 0.1, 2, -1, Double.NaN, 4.9e-324};
        while (calls < CALLS) {
            int side = below(40) == 0 ? about(2) : below(2);
            Model.Design of = model.sides[side & 1];
            switch (below(20)) {
                case 0: case 1:
                    if (of.ports.size() < mostNets) {
                        net(side, about(9));
                    }
                    break;
                case 2: case 3:
                    if (of.present().size() < 5) {
                        device(side, below(30) == 0 ? about(8) : below(kinds), sizes[below(sizes.length)]);
                    }
                    break;
                case 4: swap(about(below(5) == 0 ? 8 : kinds), about(4), about(4)); break;
                case 5: share(about(kinds), shares[below(shares.length)]); break;
                case 6: port(side, about(of.ports.size()), about(3)); break;
                case 7: join(side, about(2)); break;
                case 8: case 9: run(below(6) == 0 ? about(2001) : 2000); break;
                case 10: run(below(8)); break;
                case 11: askAll(); break;
                case 12: tested(); break;
                default:
                    pin(side, about(of.devices.size()), below(30) == 0 ? about(4) : below(4),
                        below(4) == 0 ? -1 : about(of.ports.size()));
            }
        }
    }

    private List<Integer> shuffled(int count) {
        List<Integer> all = new ArrayList<>();
        for (int i = 0; i < count; i++) {
            all.add(i);
        }
        Collections.shuffle(all, chance);
        return all;
    }

    /** Side 1 is side 0 with other numbers; at times something is changed behind it. */
    private void compareCopies(int devices, int nets, int[] answers) {
        int kinds = 1 + below(2);
        int pins = 1 + below(4);
        makeNets(nets);
        int[] kindOf = new int[devices];
        int[][] netOf = new int[devices][4];
        for (int d = 0; d < devices; d++) {
            kindOf[d] = below(kinds);
            for (int k = 0; k < 4; k++) {
                netOf[d][k] = k >= pins || below(9) == 0 ? -1 : below(nets);
            }
        }
        for (int i = below(4); i > 0; i--) {
            swap(below(kinds), below(4), below(4));
        }
        List<Integer> places = shuffled(devices);
        List<Integer> netPlaces = shuffled(nets);
        for (int d = 0; d < devices; d++) {
            placeDevice(0, d, kindOf[d], netOf[d], null);
            placeDevice(1, d, kindOf[places.get(d)], netOf[places.get(d)], netPlaces);
        }
        for (int i = below(3); i > 0; i--) {
            int n = below(nets);
            port(0, n, i);
            port(1, netPlaces.get(n), i);
        }
        compare(answers);
        for (int i = 0; i < 6; i++) {
            change(devices, nets, kinds);
            tested();
            compare(answers);
        }
    }

    private void makeNets(int nets) {
        for (int n = 0; n < nets; n++) {
            net(0, n);
            net(1, 0);
        }
    }

    private void placeDevice(int side, int d, int kind, int[] nets, List<Integer> places) {
        device(side, kind, 8);
        for (int k = 0; k < 4; k++) {
            int net = nets[k];
            if (net != -1) {
                pin(side, d, k, places == null ? net : places.get(net));
            }
        }
    }

    private void compare(int[] answers) {
        int before = calls;
        int[] tries = {0, 3, 2000};
        run(tries[below(2)]);
        run(tries[2]);
        answers[model.devicePairs != null ? 1 : model.differences.isEmpty() ? 2 : 0]++;
        if (before < 400) {
            askAll();
        }
        compareWithAllPairings();
    }

    /** Where there are few pairings, the model itself is held against the bare definition. */
    private void compareWithAllPairings() {
        boolean few = model.sides[0].present().size() <= 4 && model.sides[0].usedNets().size() <= 5;
        if (few) {
            List<Map<Integer, Integer>> first = model.firstMatchOfAll();
            String wanted = String.valueOf(first);
            String got = model.devicePairs == null ? "null"
                : List.of(model.devicePairs, model.netPairs).toString();
            Check.same(name + ", first of all matches", wanted, got);
        }
    }

    private void change(int devices, int nets, int kinds) {
        int side = below(2);
        switch (below(7)) {
            case 0: port(side, below(nets), below(3)); break;
            case 1: swap(below(kinds), below(4), below(4)); break;
            case 2: join(0, 0); tested(); join(1, 0); break;
            case 3: join(0, 1); tested(); join(1, 1); break;
            case 4: pin(side, below(devices), below(4), below(nets)); break;
            case 5: share(below(kinds), below(3) / 2.0); break;
            default: device(side, below(kinds), 8 - below(2)); break;
        }
    }

    /**
     * Both sides are made of so many copies of one small design, whose pins go to their nets' own
     * copies or across to others: rounds can't tell the sides apart, so it is for the search.
     */
    private void compareCovers(int copies, int[] answers) {
        int devices = 1 + below(4);
        int nets = 1 + below(3);
        makeNets(nets * copies);
        int[][] netOf = new int[devices][4];
        int[] kindOf = new int[devices];
        for (int d = 0; d < devices; d++) {
            kindOf[d] = below(2);
            for (int k = 0; k < 4; k++) {
                netOf[d][k] = below(5) == 0 ? -1 : below(nets);
            }
        }
        for (int i = below(4); i > 0; i--) {
            swap(below(2), below(4), below(4));
        }
        for (int side = 0; side < 2; side++) {
            for (int d = 0; d < devices; d++) {
                placeCopies(side, copies, kindOf[d], netOf[d]);
            }
        }
        compare(answers);
        join(0, below(2));
        tested();
        compare(answers);
    }

    private void placeCopies(int side, int copies, int kind, int[] nets) {
        int first = model.sides[side].devices.size();
        for (int i = 0; i < copies; i++) {
            device(side, kind, 8);
        }
        for (int k = 0; k < 4; k++) {
            List<Integer> across = shuffled(copies);
            for (int i = 0; i < copies && nets[k] != -1; i++) {
                pin(side, first + i, k, nets[k] * copies + across.get(i));
            }
        }
    }

    /** Rings of devices with two like pins: many pairs are alike, so the search tries much. */
    private void compareRings(int length) {
        makeNets(length);
        if (below(2) == 0) {
            swap(0, 0, 1);
        }
        List<Integer> places = shuffled(length);
        int cut = below(3) == 0 ? length / 2 : 0;
        for (int d = 0; d < length; d++) {
            device(0, 0, 8);
            pin(0, d, 0, d);
            pin(0, d, 1, (d + 1) % length);
        }
        for (int d = 0; d < length; d++) {
            int next = d == cut - 1 ? 0 : d == length - 1 ? cut : d + 1;
            device(1, 0, below(20) == 0 ? 7 : 8);
            pin(1, d, 0, places.get(d));
            pin(1, d, 1, places.get(next));
        }
        run(2000);
        askAll();
        share(0, 0.25);
        run(2000);
        askAll();
    }
}
