import java.util.Arrays;

/**
 * Two designs of devices and nets are compared: classes are refined round by round, then like
 * devices are tried; what is found is the first of all matches, or what differs.
 */
public final class GraphCompare {
    public static final int NONE = -1;

    private static final int SIDES = 2;
    private static final int NETS = 40;
    private static final int DEVICES = 30;
    private static final int KINDS = 8;
    private static final int PINS = 4;
    private static final int MOST_SIZE = 1000000;
    private static final int MOST_TRIES = 2000;

    private static final int PARALLEL = 0;
    private static final int SERIES = 1;

    private static final int NO_MATCH = 0;
    private static final int A_MATCH = 1;
    private static final int TOO_MANY_TRIES = 2;

    private final Designs designs = new Designs();
    private final Joining joining = new Joining();
    private final Classes classes = new Classes();
    private final Search search = new Search();
    private final Match kept = new Match();
    private final Differences differences = new Differences();
    private int latestRounds = 0;
    private int latestAlike = 0;

    public GraphCompare() {
    }

    public int net(int side, int name)
            throws IndexOutOfBoundsException, IllegalStateException, IllegalArgumentException {
        Side of = sideAt(side);
        if (of.netCount >= NETS) {
            throw new IllegalStateException("no more nets");
        }
        if (name < 0) {
            throw new IllegalArgumentException("a name below 0");
        }
        return of.addNet();
    }

    public int device(int side, int kind, double size)
            throws IndexOutOfBoundsException, IllegalStateException, IllegalArgumentException {
        Side of = sideAt(side);
        if (!isKind(kind)) {
            throw new IndexOutOfBoundsException("no such kind");
        }
        if (of.deviceCount >= DEVICES) {
            throw new IllegalStateException("no more devices");
        }
        if (!(size > 0.0 && size <= MOST_SIZE)) {
            throw new IllegalArgumentException("no such size");
        }
        return of.addDevice(kind, size);
    }

    public boolean pin(int side, int device, int k, int net) throws IndexOutOfBoundsException {
        Side of = sideAt(side);
        if (!of.isDevice(device) || of.gone[device]) {
            throw new IndexOutOfBoundsException("no such device");
        }
        if (!isPin(k)) {
            throw new IndexOutOfBoundsException("no such pin");
        }
        if (net != NONE && !of.isNet(net)) {
            throw new IndexOutOfBoundsException("no such net");
        }
        return of.connect(device, k, net);
    }

    public boolean swap(int kind, int a, int b) throws IndexOutOfBoundsException {
        if (!isKind(kind)) {
            throw new IndexOutOfBoundsException("no such kind");
        }
        if (!isPin(a) || !isPin(b)) {
            throw new IndexOutOfBoundsException("no such pin");
        }
        return designs.kinds.uniteGroups(kind, a, b);
    }

    public boolean share(int kind, double v)
            throws IndexOutOfBoundsException, IllegalArgumentException {
        if (!isKind(kind)) {
            throw new IndexOutOfBoundsException("no such kind");
        }
        if (!(v >= 0.0 && v <= 1.0)) {
            throw new IllegalArgumentException("no such share");
        }
        return designs.kinds.setShare(kind, v);
    }

    public boolean port(int side, int net, int name)
            throws IndexOutOfBoundsException, IllegalArgumentException {
        Side of = sideAt(side);
        if (!of.isNet(net)) {
            throw new IndexOutOfBoundsException("no such net");
        }
        if (name < 0) {
            throw new IllegalArgumentException("a name below 0");
        }
        int bearer = of.portNamed(name);
        if (bearer != NONE && bearer != net) {
            throw new IllegalArgumentException("the name of another port");
        }
        return of.makePort(net, name);
    }

    public int join(int side, int rule)
            throws IndexOutOfBoundsException, IllegalArgumentException {
        Side of = sideAt(side);
        if (rule != PARALLEL && rule != SERIES) {
            throw new IllegalArgumentException("no such rule");
        }
        joining.joinAll(of, designs.kinds, rule);
        return of.presentCount();
    }

    public int run(long tries) throws IllegalArgumentException {
        if (tries < 0 || tries > MOST_TRIES) {
            throw new IllegalArgumentException("no such number of tries");
        }
        kept.forget();
        differences.forget();
        designs.markUsedNets();
        classes.divide(designs);
        int answer = NO_MATCH;
        if (designs.haveAsMuch()) {
            answer = search.find(designs, classes, (int) tries);
        }
        if (answer == TOO_MANY_TRIES) {
            return answer;
        }
        latestRounds = classes.roundCount;
        latestAlike = classes.alikeOnFirstSide(designs.first);
        if (answer == A_MATCH) {
            search.keep(designs, kept);
        } else {
            differences.list(designs, classes);
        }
        return answer;
    }

    public int match(int side, int device) throws IndexOutOfBoundsException {
        Side of = sideAt(side);
        if (!of.isDevice(device)) {
            throw new IndexOutOfBoundsException("no such device");
        }
        if (of.gone[device]) {
            return NONE;
        }
        return side == 0 ? kept.firstDevices[device] : kept.secondDevices[device];
    }

    public int netMatch(int net) throws IndexOutOfBoundsException {
        if (!designs.first.isNet(net)) {
            throw new IndexOutOfBoundsException("no such net");
        }
        return kept.firstNets[net];
    }

    public int differs(int k, int what) throws IndexOutOfBoundsException {
        if (k < 0 || k >= differences.count) {
            throw new IndexOutOfBoundsException("no such difference");
        }
        if (what < 0 || what >= Differences.PARTS) {
            throw new IndexOutOfBoundsException("no such part of a difference");
        }
        return differences.parts[k * Differences.PARTS + what];
    }

    public int rounds() {
        return latestRounds;
    }

    public int tried() {
        return latestAlike;
    }

    public boolean tested() {
        designs.markUsedNets();
        return kept.isMatchNow(designs);
    }

    private Side sideAt(int side) {
        if (side < 0 || side >= SIDES) {
            throw new IndexOutOfBoundsException("no such side");
        }
        return designs.sideOf(side);
    }

    private static boolean isKind(int kind) {
        return kind >= 0 && kind < KINDS;
    }

    private static boolean isPin(int k) {
        return k >= 0 && k < PINS;
    }

    /** One design: its nets, ports and devices. */
    private static final class Side {
        private int netCount = 0;
        private final int[] portNames = new int[NETS];
        private final boolean[] used = new boolean[NETS];
        private int deviceCount = 0;
        private final int[] kindOf = new int[DEVICES];
        private final double[] sizes = new double[DEVICES];
        private final boolean[] gone = new boolean[DEVICES];
        private final int[] pins = new int[DEVICES * PINS];

        Side() {
            Arrays.fill(portNames, NONE);
            Arrays.fill(pins, NONE);
        }

        int addNet() {
            netCount++;
            return netCount - 1;
        }

        int addDevice(int kind, double size) {
            kindOf[deviceCount] = kind;
            sizes[deviceCount] = size;
            deviceCount++;
            return deviceCount - 1;
        }

        boolean isNet(int net) {
            return net >= 0 && net < netCount;
        }

        boolean isDevice(int device) {
            return device >= 0 && device < deviceCount;
        }

        int netOf(int device, int k) {
            return pins[device * PINS + k];
        }

        boolean connect(int device, int k, int net) {
            boolean another = netOf(device, k) != net;
            pins[device * PINS + k] = net;
            return another;
        }

        boolean isPort(int net) {
            return portNames[net] != NONE;
        }

        boolean makePort(int net, int name) {
            boolean wasNone = !isPort(net);
            portNames[net] = name;
            return wasNone;
        }

        int portNamed(int name) {
            for (int net = 0; net < netCount; net++) {
                if (isPort(net) && portNames[net] == name) {
                    return net;
                }
            }
            return NONE;
        }

        int presentCount() {
            int count = 0;
            for (int device = 0; device < deviceCount; device++) {
                if (!gone[device]) {
                    count++;
                }
            }
            return count;
        }

        int presentOfKind(int kind) {
            int count = 0;
            for (int device = 0; device < deviceCount; device++) {
                if (!gone[device] && kindOf[device] == kind) {
                    count++;
                }
            }
            return count;
        }

        /** A device that comes or goes changes which nets are used: marked anew before each use. */
        void markUsedNets() {
            for (int net = 0; net < netCount; net++) {
                used[net] = isPort(net);
            }
            for (int device = 0; device < deviceCount; device++) {
                for (int k = 0; k < PINS && !gone[device]; k++) {
                    int net = netOf(device, k);
                    if (net != NONE) {
                        used[net] = true;
                    }
                }
            }
        }

        int usedCount() {
            int count = 0;
            for (int net = 0; net < netCount; net++) {
                if (used[net]) {
                    count++;
                }
            }
            return count;
        }

        /** The least name of a port that is above another number, or NONE. */
        int nextPortName(int above) {
            int least = NONE;
            for (int net = 0; net < netCount; net++) {
                int name = portNames[net];
                if (name > above && (least == NONE || name < least)) {
                    least = name;
                }
            }
            return least;
        }
    }

    /** What holds for all devices of a kind, on both sides: its groups of pins and its share. */
    private static final class Kinds {
        // Of each pin of each kind the least pin of its group.
        private final int[] groups = new int[KINDS * PINS];
        private final double[] shares = new double[KINDS];

        Kinds() {
            for (int i = 0; i < KINDS * PINS; i++) {
                groups[i] = i % PINS;
            }
        }

        int groupOf(int kind, int k) {
            return groups[kind * PINS + k];
        }

        boolean uniteGroups(int kind, int a, int b) {
            int one = groupOf(kind, a);
            int other = groupOf(kind, b);
            if (one == other) {
                return false;
            }
            for (int k = 0; k < PINS; k++) {
                int group = groupOf(kind, k);
                if (group == one || group == other) {
                    groups[kind * PINS + k] = Math.min(one, other);
                }
            }
            return true;
        }

        boolean setShare(int kind, double v) {
            boolean another = shares[kind] != v;
            shares[kind] = v;
            return another;
        }

        boolean sizesAgree(int kind, double a, double b) {
            double greater = a >= b ? a : b;
            double lesser = a >= b ? b : a;
            return greater - lesser <= shares[kind] * greater;
        }

        /** How many pins of a group a device has on a net (or on none). */
        int pinsOn(Side side, int device, int group, int net) {
            int count = 0;
            for (int k = 0; k < PINS; k++) {
                if (side.netOf(device, k) == net && groupOf(side.kindOf[device], k) == group) {
                    count++;
                }
            }
            return count;
        }
    }

    /** Both sides, and the kinds of their devices. */
    private static final class Designs {
        private final Side first = new Side();
        private final Side second = new Side();
        private final Kinds kinds = new Kinds();

        Side sideOf(int side) {
            return side == 0 ? first : second;
        }

        void markUsedNets() {
            first.markUsedNets();
            second.markUsedNets();
        }

        boolean haveAsMuch() {
            return first.presentCount() == second.presentCount()
                && first.usedCount() == second.usedCount()
                && nextUnevenName(NONE) == NONE;
        }

        /** The least name above another number that only one side has a port of, or NONE. */
        int nextUnevenName(int above) {
            int last = above;
            for (int i = 0; i < SIDES * NETS; i++) {
                int name = first.nextPortName(last);
                int other = second.nextPortName(last);
                if (name != other) {
                    return name == NONE || (other != NONE && other < name) ? other : name;
                }
                if (name == NONE) {
                    return NONE;
                }
                last = name;
            }
            return NONE;
        }
    }

    /** Joins parallel and series devices of a side. */
    private static final class Joining {
        private final int[] pinsAt = new int[NETS];

        void joinAll(Side side, Kinds kinds, int rule) {
            // Each joining makes one device gone, so there can't be more of them than devices.
            for (int i = 0; i < DEVICES; i++) {
                if (!joinFirstPair(side, kinds, rule)) {
                    return;
                }
            }
        }

        private boolean joinFirstPair(Side side, Kinds kinds, int rule) {
            countPins(side);
            for (int a = 0; a < side.deviceCount; a++) {
                for (int b = a + 1; b < side.deviceCount; b++) {
                    if (areOfOneKind(side, a, b) && joinPair(side, kinds, rule, a, b)) {
                        return true;
                    }
                }
            }
            return false;
        }

        private void countPins(Side side) {
            Arrays.fill(pinsAt, 0);
            for (int device = 0; device < side.deviceCount; device++) {
                for (int k = 0; k < PINS && !side.gone[device]; k++) {
                    int net = side.netOf(device, k);
                    if (net != NONE) {
                        pinsAt[net]++;
                    }
                }
            }
        }

        private static boolean areOfOneKind(Side side, int a, int b) {
            return !side.gone[a] && !side.gone[b] && side.kindOf[a] == side.kindOf[b];
        }

        private boolean joinPair(Side side, Kinds kinds, int rule, int a, int b) {
            return rule == PARALLEL ? joinParallel(side, kinds, a, b) : joinSeries(side, kinds, a, b);
        }

        private static boolean joinParallel(Side side, Kinds kinds, int a, int b) {
            for (int k = 0; k < PINS; k++) {
                int group = kinds.groupOf(side.kindOf[a], k);
                int net = side.netOf(a, k);
                if (kinds.pinsOn(side, a, group, net) != kinds.pinsOn(side, b, group, net)) {
                    return false;
                }
            }
            side.sizes[a] = side.sizes[a] + side.sizes[b];
            side.gone[b] = true;
            return true;
        }

        private boolean joinSeries(Side side, Kinds kinds, int a, int b) {
            if (!hasTwoEnds(side, kinds, a) || !hasTwoEnds(side, kinds, b)) {
                return false;
            }
            int net = netBetween(side, a, b);
            if (net == NONE) {
                return false;
            }
            int there = side.netOf(a, 0) == net ? 0 : 1;
            int other = side.netOf(b, 0) == net ? 1 : 0;
            side.connect(a, there, side.netOf(b, other));
            side.sizes[a] = sizeInSeries(side.sizes[a], side.sizes[b]);
            side.gone[b] = true;
            return true;
        }

        private static boolean hasTwoEnds(Side side, Kinds kinds, int device) {
            int kind = side.kindOf[device];
            return side.netOf(device, 0) != NONE && side.netOf(device, 1) != NONE
                && side.netOf(device, 2) == NONE && side.netOf(device, 3) == NONE
                && kinds.groupOf(kind, 0) == kinds.groupOf(kind, 1);
        }

        /** The least net that holds nothing but one pin of each of two devices, or NONE. */
        private int netBetween(Side side, int a, int b) {
            int least = NONE;
            for (int k = 0; k < 2; k++) {
                int net = side.netOf(a, k);
                boolean between = !side.isPort(net) && pinsAt[net] == 2
                    && side.netOf(a, 1 - k) != net
                    && (side.netOf(b, 0) == net || side.netOf(b, 1) == net);
                if (between && (least == NONE || net < least)) {
                    least = net;
                }
            }
            return least;
        }

        private static double sizeInSeries(double a, double b) {
            // Two sizes that are next to nothing may be 0 when joined; 1 / 0 would be infinite
            // as a double, and what comes of it 0 again.
            if (a <= 0.0 || b <= 0.0) {
                return 0.0;
            }
            return 1.0 / (1.0 / a + 1.0 / b);
        }
    }

    /** Things in classes, which are split by codes: each thing has a sorted row of them. */
    private static final class Partition {
        private final int things;
        private final int mostCodes;
        private int count = 0;
        // The class of each thing; NONE of one that is in no class.
        private final int[] classOf;
        private final int[] codes;
        private final int[] codeCounts;
        // While classes are split: the newest part of each old class, the part before each part,
        // and the first thing of each part.
        private final int[] newestPart;
        private final int[] partBefore;
        private final int[] firstThing;

        Partition(int things, int mostCodes) {
            this.things = things;
            this.mostCodes = mostCodes;
            classOf = new int[things];
            codes = new int[things * mostCodes];
            codeCounts = new int[things];
            newestPart = new int[things];
            partBefore = new int[things];
            firstThing = new int[things];
        }

        void empty() {
            count = 0;
            Arrays.fill(classOf, NONE);
            forgetCodes();
        }

        void forgetCodes() {
            Arrays.fill(codeCounts, 0);
        }

        /** All things that come in are in one class until they are split. */
        void enter(int thing, int code) {
            classOf[thing] = 0;
            addCode(thing, code);
        }

        void addCode(int thing, int code) {
            int start = thing * mostCodes;
            int at = start + codeCounts[thing];
            while (at > start && codes[at - 1] > code) {
                codes[at] = codes[at - 1];
                at--;
            }
            codes[at] = code;
            codeCounts[thing]++;
        }

        /** Those of a class with the same codes stay in one: whether there are more classes then. */
        boolean split() {
            Arrays.fill(newestPart, NONE);
            int parts = 0;
            for (int thing = 0; thing < things; thing++) {
                int old = classOf[thing];
                if (old == NONE) {
                    continue;
                }
                int part = partLike(thing, newestPart[old]);
                if (part == NONE) {
                    part = parts;
                    firstThing[part] = thing;
                    partBefore[part] = newestPart[old];
                    newestPart[old] = part;
                    parts++;
                }
                classOf[thing] = part;
            }
            boolean more = parts > count;
            count = parts;
            return more;
        }

        private int partLike(int thing, int newest) {
            int part = newest;
            for (int i = 0; i < things && part != NONE; i++) {
                if (haveSameCodes(thing, firstThing[part])) {
                    return part;
                }
                part = partBefore[part];
            }
            return NONE;
        }

        private boolean haveSameCodes(int one, int other) {
            if (codeCounts[one] != codeCounts[other]) {
                return false;
            }
            for (int i = 0; i < codeCounts[one]; i++) {
                if (codes[one * mostCodes + i] != codes[other * mostCodes + i]) {
                    return false;
                }
            }
            return true;
        }
    }

    /** The classes of devices and of used nets of both sides, refined in rounds. */
    private static final class Classes {
        private final Partition devices = new Partition(SIDES * DEVICES, PINS);
        private final Partition nets = new Partition(SIDES * NETS, DEVICES * PINS);
        private int roundCount = 0;
        private final int[] firstCounts = new int[SIDES * DEVICES];
        private final int[] secondCounts = new int[SIDES * DEVICES];

        void divide(Designs designs) {
            enterAll(designs);
            roundCount = 0;
            // A round that counts makes a class more, and there are no more classes than things.
            for (int i = 0; i < SIDES * (DEVICES + NETS); i++) {
                if (!makeRound(designs)) {
                    break;
                }
                roundCount++;
            }
            countMembers(designs.first, 0, firstCounts);
            countMembers(designs.second, 1, secondCounts);
        }

        int classOf(int side, int device) {
            return devices.classOf[side * DEVICES + device];
        }

        int alikeOnFirstSide(Side first) {
            int alike = 0;
            for (int device = 0; device < first.deviceCount; device++) {
                if (!first.gone[device] && firstCounts[classOf(0, device)] > 1) {
                    alike++;
                }
            }
            return alike;
        }

        private void enterAll(Designs designs) {
            devices.empty();
            nets.empty();
            for (int s = 0; s < SIDES; s++) {
                Side side = designs.sideOf(s);
                for (int device = 0; device < side.deviceCount; device++) {
                    if (!side.gone[device]) {
                        devices.enter(s * DEVICES + device, side.kindOf[device]);
                    }
                }
                for (int net = 0; net < side.netCount; net++) {
                    if (side.used[net]) {
                        nets.enter(s * NETS + net, side.portNames[net]);
                    }
                }
            }
            devices.split();
            nets.split();
        }

        private boolean makeRound(Designs designs) {
            devices.forgetCodes();
            nets.forgetCodes();
            for (int s = 0; s < SIDES; s++) {
                Side side = designs.sideOf(s);
                for (int device = 0; device < side.deviceCount; device++) {
                    if (!side.gone[device]) {
                        addCodes(designs.kinds, side, s, device);
                    }
                }
            }
            // Both are split by codes of the classes before: none is split until all codes stand.
            boolean moreOfDevices = devices.split();
            boolean moreOfNets = nets.split();
            return moreOfDevices || moreOfNets;
        }

        private void addCodes(Kinds kinds, Side side, int s, int device) {
            int thing = s * DEVICES + device;
            for (int k = 0; k < PINS; k++) {
                int group = kinds.groupOf(side.kindOf[device], k);
                int net = side.netOf(device, k);
                int netClass = NONE;
                if (net != NONE) {
                    netClass = nets.classOf[s * NETS + net];
                    nets.addCode(s * NETS + net, devices.classOf[thing] * PINS + group);
                }
                devices.addCode(thing, (netClass + 1) * PINS + group);
            }
        }

        private void countMembers(Side side, int s, int[] counts) {
            Arrays.fill(counts, 0);
            for (int device = 0; device < side.deviceCount; device++) {
                if (!side.gone[device]) {
                    counts[classOf(s, device)]++;
                }
            }
        }
    }

    /** The sorts of a side's nets in the search, and the nets of the device looked at. */
    private static final class NetSorts {
        private static final int BITS_OF_A_COUNT = 3;

        private final int[] sorts = new int[NETS];
        private int count = 0;
        private final int[] nets = new int[PINS];
        private final int[] keys = new int[PINS];

        /** Lists the nets of a device, each with a key of its sort and the device's pins on it. */
        void lookAt(Side side, Kinds kinds, int device) {
            count = 0;
            for (int k = 0; k < PINS; k++) {
                int net = side.netOf(device, k);
                if (net != NONE) {
                    int group = kinds.groupOf(side.kindOf[device], k);
                    keys[placeOf(net)] += 1 << (BITS_OF_A_COUNT * group);
                }
            }
        }

        private int placeOf(int net) {
            for (int i = 0; i < count; i++) {
                if (nets[i] == net) {
                    return i;
                }
            }
            int place = count;
            nets[place] = net;
            keys[place] = sorts[net] << (BITS_OF_A_COUNT * PINS);
            count++;
            return place;
        }

        /** The first place with a key that is not among those set as bits in left out, or NONE. */
        int placeWith(int key, int leftOut) {
            for (int i = 0; i < count; i++) {
                if (keys[i] == key && (leftOut >> i & 1) == 0) {
                    return i;
                }
            }
            return NONE;
        }
    }

    /** Pairs the devices of side 0, in order, with those of side 1; the first way to do it. */
    private static final class Search {
        // Sorts up to here are those of nets without a paired device: 0, and one for each port.
        private static final int PLAIN_SORTS = NETS + 1;

        private int deviceCount = 0;
        private final int[] firstDevices = new int[DEVICES];
        // Of each device of side 0, by its place: the one of side 1 tried last, NONE before.
        private final int[] triedLast = new int[DEVICES];
        private final boolean[] taken = new boolean[DEVICES];
        private final NetSorts firstSorts = new NetSorts();
        private final NetSorts secondSorts = new NetSorts();
        private final int[] mates = new int[PINS];
        // What to put back when a pair is undone: PINS rows for each place.
        private final int[] changedCounts = new int[DEVICES];
        private final int[] changedFirst = new int[DEVICES * PINS];
        private final int[] changedSecond = new int[DEVICES * PINS];
        private final int[] sortsBefore = new int[DEVICES * PINS];

        int find(Designs designs, Classes classes, int mostTries) {
            begin(designs);
            int place = 0;
            int tries = 0;
            // A step tries a pair or undoes one that was tried, so there are not twice as many
            // steps as tries, and two.
            for (int step = 0; step < 2 * MOST_TRIES + 2; step++) {
                if (place < 0 || place >= deviceCount) {
                    break;
                }
                int candidate = nextCandidate(designs, classes, place);
                if (candidate == NONE) {
                    triedLast[place] = NONE;
                    place--;
                    undo(place);
                } else if (tries >= mostTries) {
                    return TOO_MANY_TRIES;
                } else {
                    tries++;
                    triedLast[place] = candidate;
                    if (pairUp(designs, place, candidate)) {
                        place++;
                    }
                }
            }
            return place >= deviceCount ? A_MATCH : NO_MATCH;
        }

        /** Keeps what was found; a net goes with the least net of its sort that is left. */
        void keep(Designs designs, Match match) {
            match.kept = true;
            for (int i = 0; i < deviceCount; i++) {
                match.pairDevices(firstDevices[i], triedLast[i]);
            }
            for (int net = 0; net < designs.first.netCount; net++) {
                if (designs.first.used[net]) {
                    keepNet(designs.second, match, net);
                }
            }
        }

        private void keepNet(Side second, Match match, int net) {
            for (int other = 0; other < second.netCount; other++) {
                boolean left = second.used[other] && match.secondNets[other] == NONE;
                if (left && secondSorts.sorts[other] == firstSorts.sorts[net]) {
                    match.pairNets(net, other);
                    return;
                }
            }
        }

        private void begin(Designs designs) {
            Arrays.fill(triedLast, NONE);
            deviceCount = 0;
            for (int device = 0; device < designs.first.deviceCount; device++) {
                if (!designs.first.gone[device]) {
                    firstDevices[deviceCount] = device;
                    deviceCount++;
                }
            }
            for (int device = 0; device < DEVICES; device++) {
                taken[device] = false;
            }
            sortByPorts(designs.first, designs.first, firstSorts.sorts);
            sortByPorts(designs.second, designs.first, secondSorts.sorts);
        }

        private static void sortByPorts(Side side, Side first, int[] sorts) {
            for (int net = 0; net < side.netCount; net++) {
                sorts[net] = side.isPort(net) ? first.portNamed(side.portNames[net]) + 1 : 0;
            }
        }

        private int nextCandidate(Designs designs, Classes classes, int place) {
            int wanted = classes.classOf(0, firstDevices[place]);
            for (int other = triedLast[place] + 1; other < designs.second.deviceCount; other++) {
                boolean free = !designs.second.gone[other] && !taken[other];
                if (free && classes.classOf(1, other) == wanted) {
                    return other;
                }
            }
            return NONE;
        }

        private boolean pairUp(Designs designs, int place, int other) {
            int device = firstDevices[place];
            double size = designs.first.sizes[device];
            int kind = designs.first.kindOf[device];
            if (!designs.kinds.sizesAgree(kind, size, designs.second.sizes[other])) {
                return false;
            }
            firstSorts.lookAt(designs.first, designs.kinds, device);
            secondSorts.lookAt(designs.second, designs.kinds, other);
            if (!findMates()) {
                return false;
            }
            changeSorts(place);
            taken[other] = true;
            return true;
        }

        /**
         * There were as many nets of each sort on both sides before: so it stays if the nets of
         * the two devices go together, since all others keep their sort.
         */
        private boolean findMates() {
            if (firstSorts.count != secondSorts.count) {
                return false;
            }
            int mated = 0;
            for (int i = 0; i < firstSorts.count; i++) {
                int mate = secondSorts.placeWith(firstSorts.keys[i], mated);
                if (mate == NONE) {
                    return false;
                }
                mates[i] = mate;
                mated |= 1 << mate;
            }
            return true;
        }

        private void changeSorts(int place) {
            changedCounts[place] = firstSorts.count;
            for (int i = 0; i < firstSorts.count; i++) {
                int row = place * PINS + i;
                int net = firstSorts.nets[i];
                int other = secondSorts.nets[mates[i]];
                changedFirst[row] = net;
                changedSecond[row] = other;
                sortsBefore[row] = firstSorts.sorts[net];
                int like = firstSorts.placeWith(firstSorts.keys[i], 0);
                int fresh = PLAIN_SORTS + place * PINS + like;
                firstSorts.sorts[net] = fresh;
                secondSorts.sorts[other] = fresh;
            }
        }

        private void undo(int place) {
            if (place < 0) {
                return;
            }
            taken[triedLast[place]] = false;
            for (int i = 0; i < changedCounts[place]; i++) {
                int row = place * PINS + i;
                firstSorts.sorts[changedFirst[row]] = sortsBefore[row];
                secondSorts.sorts[changedSecond[row]] = sortsBefore[row];
            }
        }
    }

    /** The match that is kept: pairs of devices and of nets, seen from each side. */
    private static final class Match {
        private boolean kept = false;
        private final int[] firstDevices = new int[DEVICES];
        private final int[] secondDevices = new int[DEVICES];
        private final int[] firstNets = new int[NETS];
        private final int[] secondNets = new int[NETS];

        Match() {
            forget();
        }

        void forget() {
            kept = false;
            Arrays.fill(firstDevices, NONE);
            Arrays.fill(secondDevices, NONE);
            Arrays.fill(firstNets, NONE);
            Arrays.fill(secondNets, NONE);
        }

        void pairDevices(int first, int second) {
            firstDevices[first] = second;
            secondDevices[second] = first;
        }

        void pairNets(int first, int second) {
            firstNets[first] = second;
            secondNets[second] = first;
        }

        boolean isMatchNow(Designs designs) {
            return kept
                && pairsPresent(designs.first, designs.second, firstDevices)
                && pairsPresent(designs.second, designs.first, secondDevices)
                && pairsUsed(designs.first, designs.second, firstNets)
                && pairsUsed(designs.second, designs.first, secondNets)
                && allPairsAgree(designs);
        }

        private static boolean pairsPresent(Side side, Side other, int[] pairs) {
            for (int device = 0; device < side.deviceCount; device++) {
                int partner = pairs[device];
                if (!side.gone[device] && (partner == NONE || other.gone[partner])) {
                    return false;
                }
            }
            return true;
        }

        private static boolean pairsUsed(Side side, Side other, int[] pairs) {
            for (int net = 0; net < side.netCount; net++) {
                int partner = pairs[net];
                if (!side.used[net]) {
                    continue;
                }
                if (partner == NONE || !other.used[partner]
                        || side.portNames[net] != other.portNames[partner]) {
                    return false;
                }
            }
            return true;
        }

        private boolean allPairsAgree(Designs designs) {
            for (int device = 0; device < designs.first.deviceCount; device++) {
                if (!designs.first.gone[device] && !pairAgrees(designs, device)) {
                    return false;
                }
            }
            return true;
        }

        private boolean pairAgrees(Designs designs, int device) {
            Side first = designs.first;
            Side second = designs.second;
            int partner = firstDevices[device];
            int kind = first.kindOf[device];
            if (!designs.kinds.sizesAgree(kind, first.sizes[device], second.sizes[partner])) {
                return false;
            }
            for (int k = 0; k < PINS; k++) {
                int group = designs.kinds.groupOf(kind, k);
                int net = first.netOf(device, k);
                int other = net == NONE ? NONE : firstNets[net];
                if (designs.kinds.pinsOn(first, device, group, net)
                        != designs.kinds.pinsOn(second, partner, group, other)) {
                    return false;
                }
            }
            return true;
        }
    }

    /** What differs, in rows of four parts: the sort, of what, how many on each side. */
    private static final class Differences {
        private static final int PARTS = 4;
        private static final int MOST = KINDS + 1 + SIDES * NETS;
        private static final int OF_KIND = 1;
        private static final int OF_NETS = 2;
        private static final int OF_NAME = 3;
        private static final int OF_CLASS = 4;
        private static final int OF_THE_WHOLE = 5;

        private int count = 0;
        private final int[] parts = new int[MOST * PARTS];
        private final boolean[] listed = new boolean[SIDES * DEVICES];

        void forget() {
            count = 0;
        }

        void list(Designs designs, Classes classes) {
            listKinds(designs);
            listNets(designs);
            listNames(designs);
            if (count == 0) {
                listClasses(designs, classes);
            }
            if (count == 0) {
                add(OF_THE_WHOLE, 0, 0, 0);
            }
        }

        private void listKinds(Designs designs) {
            for (int kind = 0; kind < KINDS; kind++) {
                int ofFirst = designs.first.presentOfKind(kind);
                int ofSecond = designs.second.presentOfKind(kind);
                if (ofFirst != ofSecond) {
                    add(OF_KIND, kind, ofFirst, ofSecond);
                }
            }
        }

        private void listNets(Designs designs) {
            int ofFirst = designs.first.usedCount();
            int ofSecond = designs.second.usedCount();
            if (ofFirst != ofSecond) {
                add(OF_NETS, 0, ofFirst, ofSecond);
            }
        }

        private void listNames(Designs designs) {
            int last = NONE;
            for (int i = 0; i < SIDES * NETS; i++) {
                int name = designs.nextUnevenName(last);
                if (name == NONE) {
                    return;
                }
                boolean ofFirst = designs.first.portNamed(name) != NONE;
                add(OF_NAME, name, ofFirst ? 1 : 0, ofFirst ? 0 : 1);
                last = name;
            }
        }

        private void listClasses(Designs designs, Classes classes) {
            for (int i = 0; i < SIDES * DEVICES; i++) {
                listed[i] = false;
            }
            for (int s = 0; s < SIDES; s++) {
                Side side = designs.sideOf(s);
                for (int device = 0; device < side.deviceCount; device++) {
                    if (!side.gone[device]) {
                        listClass(classes, classes.classOf(s, device), device);
                    }
                }
            }
        }

        /** Devices come in order, so the first one of a class is the least one. */
        private void listClass(Classes classes, int number, int device) {
            int ofFirst = classes.firstCounts[number];
            int ofSecond = classes.secondCounts[number];
            if (!listed[number] && ofFirst != ofSecond) {
                add(OF_CLASS, device, ofFirst, ofSecond);
            }
            listed[number] = true;
        }

        private void add(int sort, int ofWhat, int ofFirst, int ofSecond) {
            int row = count * PARTS;
            parts[row] = sort;
            parts[row + 1] = ofWhat;
            parts[row + 2] = ofFirst;
            parts[row + 3] = ofSecond;
            count++;
        }
    }
}
