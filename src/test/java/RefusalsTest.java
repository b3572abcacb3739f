import java.util.ArrayList;
import java.util.List;
import java.util.function.Supplier;

/**
 * "Methods throw what their comments name, the one named first when several would do", and "A call
 * that throws changes nothing": each way to be refused, and what the object answers behind it.
 */
public final class RefusalsTest {
    private static final int NONE = GraphCompare.NONE;
    private static final int LEAST = Integer.MIN_VALUE;
    private static final int MOST = Integer.MAX_VALUE;
    private static final String BOUNDS = "IndexOutOfBoundsException";
    private static final String STATE = "IllegalStateException";
    private static final String ARGUMENT = "IllegalArgumentException";
    private static final int[] NO_SIDES = {-1, 2, LEAST, MOST};
    private static final int[] NO_KINDS = {-1, 8, LEAST, MOST};
    private static final int[] NO_PINS = {-1, 4, LEAST, MOST};
    private static final int[] NO_RULES = {-1, 2, LEAST, MOST};
    private static final int[] NO_NAMES = {-1, LEAST};
    private static final long[] NO_TRIES = {-1, 2001, 1L << 32, Long.MIN_VALUE, Long.MAX_VALUE};
    private static final double[] NO_SIZES = {0.0, -0.0, -1.0, 1000000.1, Double.NaN,
        Double.POSITIVE_INFINITY};
    private static final double[] NO_SHARES = {-0.1, 1.1, Double.NaN, Double.NEGATIVE_INFINITY};

    // The states that calls are refused in.
    private static final int NEW = 0;
    private static final int FOUND = 1;
    private static final int DIFFERS = 2;
    private static final int TOO_MANY = 3;
    private static final int FULL = 4;
    private static final int STATES = 5;

    private final int state;
    private final GraphCompare x;
    private final int nets;
    private final int devices;
    private final List<String> names = new ArrayList<>();
    private final List<String> dues = new ArrayList<>();
    private final List<Supplier<Object>> calls = new ArrayList<>();

    private RefusalsTest(int state) {
        this.state = state;
        x = inState(state);
        nets = state == NEW ? 0 : state == FULL ? 40 : 6;
        devices = state == NEW ? 0 : state == FULL ? 30 : 5;
        refuseNets();
        refuseDevices();
        refusePins();
        refuseGroupsAndShares();
        refusePorts();
        refuseJoinsAndRuns();
        refuseQuestions();
    }

    public static void main(String[] args) {
        statesAreWhatTheyAreCalled();
        for (int state = 0; state < STATES; state++) {
            String untouched = goesOn(inState(state));
            int ways = new RefusalsTest(state).calls.size();
            Check.same("many ways to be refused", true, ways > 90);
            for (int i = 0; i < ways; i++) {
                RefusalsTest asked = new RefusalsTest(state);
                String what = "state " + state + ", " + asked.names.get(i);
                Check.same(what, asked.dues.get(i), Check.answer(asked.calls.get(i)));
                Check.same(what + " changes nothing", untouched, goesOn(asked.x));
            }
        }
        Check.finish("RefusalsTest");
    }

    private static void statesAreWhatTheyAreCalled() {
        Check.same("a match is kept", true, inState(FOUND).tested());
        Check.same("two things differ", "2,0,5,6;3,9,0,1;", Build.allDifferences(inState(DIFFERS)));
        Check.same("none is kept", false, inState(TOO_MANY).tested());
        Check.same("but rounds are", true, inState(TOO_MANY).rounds() > 0);
        Check.same("a match of full sides is kept", true, inState(FULL).tested());
        Check.same("of which all but 2 is paired", 29, inState(FULL).match(0, 29));
        for (int state = FOUND; state < STATES; state++) {
            final GraphCompare x = inState(state);
            Check.outOfBounds("2 is gone", () -> x.pin(0, 2, 0, NONE));
        }
    }

    private static GraphCompare inState(int state) {
        GraphCompare x = Build.withNets(state == NEW ? 0 : state == FULL ? 40 : 6);
        if (state == NEW) {
            return x;
        }
        x.swap(0, 0, 1);
        x.share(1, 0.25);
        for (int side = 0; side < 2; side++) {
            Build.add(x, side, 0, 2.0, 0, 1);
            Build.add(x, side, 1, 8.0 - side, 1, 2);
            Build.add(x, side, 0, 3.0, 1, 0);
            Build.add(x, side, 7, 1.0, 2, 3, 4, 0);
            Build.add(x, side, 7, 1.0, 3, 2, 4, 0);
            x.port(side, 0, MOST);
            x.port(side, 4, 5);
            x.join(side, 0);
        }
        for (int i = 5; i < 30 && state == FULL; i++) {
            Build.addBoth(x, 6, i, i + 10);
        }
        x.run(2000);
        if (state == DIFFERS) {
            x.port(1, 5, 9);
            x.run(2000);
        } else if (state == TOO_MANY) {
            x.run(0);
        }
        return x;
    }

    /** What an object answers from here on: all questions, and calls that tell what it holds. */
    private static String goesOn(GraphCompare x) {
        StringBuilder text = new StringBuilder();
        answers(x, text);
        text.append(x.run(2000)).append(' ');
        answers(x, text);
        for (int kind = 0; kind < 8; kind++) {
            final int of = kind;
            text.append(Check.answer(() -> x.share(of, 0.0))).append(' ');
            for (int i = 0; i < 6; i++) {
                final int a = i < 3 ? 0 : i < 5 ? 1 : 2;
                final int b = i < 3 ? i + 1 : i < 5 ? i - 1 : 3;
                text.append(Check.answer(() -> x.swap(of, a, b))).append(' ');
            }
        }
        for (int side = 0; side < 2; side++) {
            goesOnWithSide(x, side, text);
        }
        return text.toString();
    }

    private static void answers(GraphCompare x, StringBuilder text) {
        text.append(x.rounds()).append(' ').append(x.tried()).append(' ');
        text.append(x.tested()).append(' ').append(Build.allDifferences(x)).append(' ');
        for (int i = 0; i < 30; i += i < 6 ? 1 : 6) {
            final int number = i;
            text.append(Check.answer(() -> x.match(0, number))).append(' ');
            text.append(Check.answer(() -> x.match(1, number))).append(' ');
            text.append(Check.answer(() -> x.netMatch(number))).append(' ');
        }
    }

    private static void goesOnWithSide(GraphCompare x, int side, StringBuilder text) {
        for (int i = 0; i < 24; i++) {
            final int d = i / 4;
            final int k = i % 4;
            text.append(Check.answer(() -> x.pin(side, d, k, NONE))).append(' ');
        }
        for (int i = 0; i < 6; i++) {
            final int n = i;
            text.append(Check.answer(() -> x.port(side, n, n))).append(' ');
        }
        text.append(x.join(side, 1)).append(' ').append(x.join(side, 0)).append(' ');
        text.append(Check.answer(() -> x.net(side, 0))).append(' ');
        text.append(Check.answer(() -> x.device(side, 0, 1.0))).append(' ');
    }

    private void refuse(String call, String due, Supplier<Object> asked) {
        names.add(call);
        dues.add(due);
        calls.add(asked);
    }

    private void refuseNets() {
        for (int side : NO_SIDES) {
            refuse("net: side " + side, BOUNDS, () -> x.net(side, 0));
            refuse("net: side first, " + side, BOUNDS, () -> x.net(side, -1));
        }
        for (int name : NO_NAMES) {
            refuse("net: name " + name, nets == 40 ? STATE : ARGUMENT, () -> x.net(0, name));
            refuse("net: name " + name, nets == 40 ? STATE : ARGUMENT, () -> x.net(1, name));
        }
        if (nets == 40) {
            refuse("net: side 0 is full", STATE, () -> x.net(0, 0));
            refuse("net: side 1 is full", STATE, () -> x.net(1, MOST));
        }
    }

    private void refuseDevices() {
        for (int side : NO_SIDES) {
            refuse("device: side " + side, BOUNDS, () -> x.device(side, 0, 1.0));
            refuse("device: side first, " + side, BOUNDS, () -> x.device(side, 0, 0.0));
        }
        for (int kind : NO_KINDS) {
            refuse("device: kind " + kind, BOUNDS, () -> x.device(0, kind, 1.0));
            refuse("device: kind first, " + kind, BOUNDS, () -> x.device(1, kind, Double.NaN));
        }
        for (double size : NO_SIZES) {
            String due = devices == 30 ? STATE : ARGUMENT;
            refuse("device: size " + size, due, () -> x.device(0, 7, size));
            refuse("device: size " + size, due, () -> x.device(1, 0, size));
        }
        if (devices == 30) {
            refuse("device: side 0 is full", STATE, () -> x.device(0, 0, 1.0));
            refuse("device: side 1 is full", STATE, () -> x.device(1, 7, 1.0));
        }
    }

    private void refusePins() {
        for (int side : NO_SIDES) {
            refuse("pin: side " + side, BOUNDS, () -> x.pin(side, 0, 0, NONE));
        }
        for (int device : new int[] {-1, devices, LEAST, MOST}) {
            refuse("pin: device " + device, BOUNDS, () -> x.pin(0, device, 0, NONE));
            refuse("pin: device " + device, BOUNDS, () -> x.pin(1, device, 0, NONE));
        }
        for (int k : NO_PINS) {
            refuse("pin: pin " + k, BOUNDS, () -> x.pin(0, 0, k, NONE));
            refuse("pin: pin " + k, BOUNDS, () -> x.pin(1, 3, k, 0));
        }
        for (int net : new int[] {-2, nets, LEAST, MOST}) {
            refuse("pin: net " + net, BOUNDS, () -> x.pin(0, 0, 0, net));
            refuse("pin: net " + net, BOUNDS, () -> x.pin(1, 3, 3, net));
        }
        if (state != NEW) {
            refuse("pin: a device of side 0 is gone", BOUNDS, () -> x.pin(0, 2, 0, NONE));
            refuse("pin: a device of side 1 is gone", BOUNDS, () -> x.pin(1, 2, 3, 0));
        }
    }

    private void refuseGroupsAndShares() {
        for (int kind : NO_KINDS) {
            refuse("swap: kind " + kind, BOUNDS, () -> x.swap(kind, 2, 3));
            refuse("share: kind " + kind, BOUNDS, () -> x.share(kind, 0.5));
            refuse("share: kind first, " + kind, BOUNDS, () -> x.share(kind, 2.0));
        }
        for (int k : NO_PINS) {
            refuse("swap: first pin " + k, BOUNDS, () -> x.swap(0, k, 3));
            refuse("swap: second pin " + k, BOUNDS, () -> x.swap(7, 3, k));
            refuse("swap: both pins " + k, BOUNDS, () -> x.swap(1, k, k));
        }
        for (double v : NO_SHARES) {
            refuse("share: " + v, ARGUMENT, () -> x.share(1, v));
            refuse("share: of another kind, " + v, ARGUMENT, () -> x.share(7, v));
        }
    }

    private void refusePorts() {
        for (int side : NO_SIDES) {
            refuse("port: side " + side, BOUNDS, () -> x.port(side, 0, 7));
            refuse("port: side first, " + side, BOUNDS, () -> x.port(side, 0, -1));
        }
        for (int net : new int[] {-1, nets, LEAST, MOST}) {
            refuse("port: net " + net, BOUNDS, () -> x.port(0, net, 7));
            refuse("port: net first, " + net, BOUNDS, () -> x.port(1, net, -1));
            refuse("port: net before another's name, " + net, BOUNDS, () -> x.port(1, net, 5));
        }
        if (state == NEW) {
            return;
        }
        for (int name : NO_NAMES) {
            refuse("port: name " + name, ARGUMENT, () -> x.port(0, 1, name));
            refuse("port: of a port, name " + name, ARGUMENT, () -> x.port(1, 4, name));
        }
        refuse("port: name of one behind it", ARGUMENT, () -> x.port(0, 1, 5));
        refuse("port: name of one before it", ARGUMENT, () -> x.port(1, 5, MOST));
        refuse("port: of a port, another's name", ARGUMENT, () -> x.port(1, 4, MOST));
    }

    private void refuseJoinsAndRuns() {
        for (int side : NO_SIDES) {
            refuse("join: side " + side, BOUNDS, () -> x.join(side, 0));
            refuse("join: side first, " + side, BOUNDS, () -> x.join(side, 2));
        }
        for (int rule : NO_RULES) {
            refuse("join: rule " + rule, ARGUMENT, () -> x.join(0, rule));
            refuse("join: rule " + rule, ARGUMENT, () -> x.join(1, rule));
        }
        for (long tries : NO_TRIES) {
            refuse("run: tries " + tries, ARGUMENT, () -> x.run(tries));
        }
    }

    private void refuseQuestions() {
        for (int side : NO_SIDES) {
            refuse("match: side " + side, BOUNDS, () -> x.match(side, 0));
        }
        for (int device : new int[] {-1, devices, LEAST, MOST}) {
            refuse("match: device " + device, BOUNDS, () -> x.match(0, device));
            refuse("match: device " + device, BOUNDS, () -> x.match(1, device));
        }
        for (int net : new int[] {-1, nets, LEAST, MOST}) {
            refuse("netMatch: net " + net, BOUNDS, () -> x.netMatch(net));
        }
        for (int k : new int[] {-1, state == DIFFERS ? 2 : 0, LEAST, MOST, 1 << 30}) {
            refuse("differs: " + k, BOUNDS, () -> x.differs(k, 0));
        }
        for (int what : new int[] {-1, 4, LEAST, MOST}) {
            refuse("differs: what " + what, BOUNDS, () -> x.differs(0, what));
        }
    }
}
