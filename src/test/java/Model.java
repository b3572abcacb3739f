import java.util.ArrayList;
import java.util.Arrays;
import java.util.Collections;
import java.util.HashMap;
import java.util.List;
import java.util.Map;
import java.util.TreeMap;
import java.util.TreeSet;

/**
 * The document word by word, with the Java library and without a thought of speed: what
 * GraphCompare answers is compared with it.
 */
final class Model {
    static final int NONE = -1;

    static final class Device {
        int kind;
        double size;
        boolean gone;
        int[] pins = {NONE, NONE, NONE, NONE};
    }

    static final class Design {
        List<Integer> ports = new ArrayList<>();
        List<Device> devices = new ArrayList<>();

        List<Integer> present() {
            List<Integer> all = new ArrayList<>();
            for (int d = 0; d < devices.size(); d++) {
                if (!devices.get(d).gone) {
                    all.add(d);
                }
            }
            return all;
        }

        List<Integer> usedNets() {
            TreeSet<Integer> all = new TreeSet<>();
            for (int n = 0; n < ports.size(); n++) {
                if (ports.get(n) != NONE) {
                    all.add(n);
                }
            }
            for (int d : present()) {
                for (int n : devices.get(d).pins) {
                    if (n != NONE) {
                        all.add(n);
                    }
                }
            }
            return new ArrayList<>(all);
        }

        List<Integer> portNames() {
            List<Integer> names = new ArrayList<>();
            for (int name : ports) {
                if (name != NONE) {
                    names.add(name);
                }
            }
            Collections.sort(names);
            return names;
        }
    }

    final Design[] sides = {new Design(), new Design()};
    final int[][] groups = new int[8][4];
    final double[] shares = new double[8];
    final List<int[]> differences = new ArrayList<>();
    Map<Integer, Integer> devicePairs = null;
    Map<Integer, Integer> netPairs = null;
    int rounds = 0;
    int tried = 0;
    int triesMade = 0;
    // The classes by rounds: "s:number" of a device or a net to a class.
    Map<String, Integer> deviceClasses;
    Map<String, Integer> netClasses;

    Model() {
        for (int[] g : groups) {
            for (int k = 0; k < 4; k++) {
                g[k] = k;
            }
        }
    }

    private Design side(int s) {
        if (s != 0 && s != 1) {
            throw new IndexOutOfBoundsException();
        }
        return sides[s];
    }

    private static void inRange(int number, int count) {
        if (number < 0 || number >= count) {
            throw new IndexOutOfBoundsException();
        }
    }

    private static void isTrue(boolean fine) {
        if (!fine) {
            throw new IllegalArgumentException();
        }
    }

    int net(int s, int name) {
        Design of = side(s);
        if (of.ports.size() == 40) {
            throw new IllegalStateException();
        }
        isTrue(name >= 0);
        of.ports.add(NONE);
        return of.ports.size() - 1;
    }

    int device(int s, int kind, double size) {
        Design of = side(s);
        inRange(kind, 8);
        if (of.devices.size() == 30) {
            throw new IllegalStateException();
        }
        isTrue(size > 0 && size <= 1000000);
        Device d = new Device();
        d.kind = kind;
        d.size = size;
        of.devices.add(d);
        return of.devices.size() - 1;
    }

    boolean pin(int s, int device, int k, int net) {
        Design of = side(s);
        inRange(device, of.devices.size());
        if (of.devices.get(device).gone) {
            throw new IndexOutOfBoundsException();
        }
        inRange(k, 4);
        if (net != NONE) {
            inRange(net, of.ports.size());
        }
        int before = of.devices.get(device).pins[k];
        of.devices.get(device).pins[k] = net;
        return before != net;
    }

    boolean swap(int kind, int a, int b) {
        inRange(kind, 8);
        inRange(a, 4);
        inRange(b, 4);
        int[] g = groups[kind];
        int from = g[a];
        int to = g[b];
        for (int k = 0; k < 4; k++) {
            if (g[k] == from) {
                g[k] = to;
            }
        }
        return from != to;
    }

    boolean share(int kind, double v) {
        inRange(kind, 8);
        isTrue(v >= 0 && v <= 1);
        boolean other = shares[kind] != v;
        shares[kind] = v;
        return other;
    }

    boolean port(int s, int net, int name) {
        Design of = side(s);
        inRange(net, of.ports.size());
        isTrue(name >= 0);
        for (int n = 0; n < of.ports.size(); n++) {
            isTrue(n == net || of.ports.get(n) != name);
        }
        return of.ports.set(net, name) == NONE;
    }

    int join(int s, int rule) {
        Design of = side(s);
        isTrue(rule == 0 || rule == 1);
        while (joinOne(of, rule)) {
            continue;
        }
        return of.present().size();
    }

    private boolean joinOne(Design of, int rule) {
        for (int a : of.present()) {
            for (int b : of.present()) {
                if (a < b && of.devices.get(a).kind == of.devices.get(b).kind) {
                    if (rule == 0 ? parallel(of, a, b) : series(of, a, b)) {
                        return true;
                    }
                }
            }
        }
        return false;
    }

    private boolean parallel(Design of, int a, int b) {
        Device one = of.devices.get(a);
        Device other = of.devices.get(b);
        if (!pinRow(one, x -> "" + x).equals(pinRow(other, x -> "" + x))) {
            return false;
        }
        one.size += other.size;
        other.gone = true;
        return true;
    }

    private boolean series(Design of, int a, int b) {
        Device one = of.devices.get(a);
        Device other = of.devices.get(b);
        if (!chained(one) || !chained(other)) {
            return false;
        }
        for (int n = 0; n < of.ports.size(); n++) {
            if (of.ports.get(n) != NONE) {
                continue;
            }
            List<Integer> owners = new ArrayList<>();
            for (int d : of.present()) {
                for (int p : of.devices.get(d).pins) {
                    if (p == n) {
                        owners.add(d);
                    }
                }
            }
            if (owners.equals(List.of(a, b))) {
                int k = one.pins[0] == n ? 0 : 1;
                one.pins[k] = other.pins[0] == n ? other.pins[1] : other.pins[0];
                one.size = 1 / (1 / one.size + 1 / other.size);
                other.gone = true;
                return true;
            }
        }
        return false;
    }

    private boolean chained(Device d) {
        return d.pins[0] != NONE && d.pins[1] != NONE && d.pins[2] == NONE && d.pins[3] == NONE
            && groups[d.kind][0] == groups[d.kind][1];
    }

    private List<String> pinRow(Device d, java.util.function.IntFunction<String> nameOfNet) {
        List<String> row = new ArrayList<>();
        for (int k = 0; k < 4; k++) {
            row.add(groups[d.kind][k] + "@" + (d.pins[k] == NONE ? "none" : nameOfNet.apply(d.pins[k])));
        }
        Collections.sort(row);
        return row;
    }

    // Classes are numbered by their texts' order of coming.
    private static Map<String, Integer> number(Map<String, String> texts) {
        Map<String, Integer> numbers = new HashMap<>();
        Map<String, Integer> classes = new TreeMap<>();
        for (Map.Entry<String, String> e : texts.entrySet()) {
            numbers.putIfAbsent(e.getValue(), numbers.size());
            classes.put(e.getKey(), numbers.get(e.getValue()));
        }
        return classes;
    }

    private static int classCount(Map<String, Integer> classes) {
        return new TreeSet<>(classes.values()).size();
    }

    private int divide() {
        Map<String, String> ofDevices = new TreeMap<>();
        Map<String, String> ofNets = new TreeMap<>();
        for (int s = 0; s < 2; s++) {
            for (int d : sides[s].present()) {
                ofDevices.put(s + ":" + d, "kind" + sides[s].devices.get(d).kind);
            }
            for (int n : sides[s].usedNets()) {
                ofNets.put(s + ":" + n, "port" + sides[s].ports.get(n));
            }
        }
        deviceClasses = number(ofDevices);
        netClasses = number(ofNets);
        int made = 0;
        while (true) {
            int before = classCount(deviceClasses) + classCount(netClasses);
            Map<String, Integer> devicesAfter = number(deviceTexts());
            Map<String, Integer> netsAfter = number(netTexts());
            deviceClasses = devicesAfter;
            netClasses = netsAfter;
            if (classCount(deviceClasses) + classCount(netClasses) <= before) {
                return made;
            }
            made++;
        }
    }

    private Map<String, String> deviceTexts() {
        Map<String, String> texts = new TreeMap<>();
        for (int s = 0; s < 2; s++) {
            final int at = s;
            for (int d : sides[s].present()) {
                texts.put(s + ":" + d, deviceClasses.get(s + ":" + d) + " "
                    + pinRow(sides[s].devices.get(d), n -> "" + netClasses.get(at + ":" + n)));
            }
        }
        return texts;
    }

    private Map<String, String> netTexts() {
        Map<String, String> texts = new TreeMap<>();
        for (int s = 0; s < 2; s++) {
            for (int n : sides[s].usedNets()) {
                List<String> row = new ArrayList<>();
                for (int d : sides[s].present()) {
                    Device of = sides[s].devices.get(d);
                    for (int k = 0; k < 4; k++) {
                        if (of.pins[k] == n) {
                            row.add(deviceClasses.get(s + ":" + d) + "/" + groups[of.kind][k]);
                        }
                    }
                }
                Collections.sort(row);
                texts.put(s + ":" + n, netClasses.get(s + ":" + n) + " " + row);
            }
        }
        return texts;
    }

    int run(long tries) {
        isTrue(tries >= 0 && tries <= 2000);
        devicePairs = null;
        netPairs = null;
        differences.clear();
        int made = divide();
        int answer = 0;
        if (sides[0].present().size() == sides[1].present().size()
                && sides[0].usedNets().size() == sides[1].usedNets().size()
                && sides[0].portNames().equals(sides[1].portNames())) {
            triesMade = 0;
            answer = search(new ArrayList<>(), tries);
        }
        if (answer == 2) {
            return 2;
        }
        rounds = made;
        tried = 0;
        for (int d : sides[0].present()) {
            tried += membersOf(0, deviceClasses.get("0:" + d)) > 1 ? 1 : 0;
        }
        if (answer == 0) {
            listDifferences();
        }
        return answer;
    }

    private int membersOf(int s, int number) {
        int count = 0;
        for (int d : sides[s].present()) {
            count += deviceClasses.get(s + ":" + d) == number ? 1 : 0;
        }
        return count;
    }

    private boolean agree(int kind, double a, double b) {
        return Math.abs(a - b) <= shares[kind] * Math.max(a, b);
    }

    // Partners are those of the first devices of side 0, in order.
    private int search(List<Integer> partners, long tries) {
        List<Integer> order = sides[0].present();
        if (partners.size() == order.size()) {
            keep(partners);
            return 1;
        }
        int d = order.get(partners.size());
        for (int e : sides[1].present()) {
            if (partners.contains(e)
                    || !deviceClasses.get("1:" + e).equals(deviceClasses.get("0:" + d))) {
                continue;
            }
            if (triesMade == tries) {
                return 2;
            }
            triesMade++;
            partners.add(e);
            Device one = sides[0].devices.get(d);
            if (agree(one.kind, one.size, sides[1].devices.get(e).size) && netsFit(partners)) {
                int answer = search(partners, tries);
                if (answer != 0) {
                    return answer;
                }
            }
            partners.remove(partners.size() - 1);
        }
        return 0;
    }

    private String netSort(int s, int n, List<Integer> devices) {
        StringBuilder sort = new StringBuilder("port" + sides[s].ports.get(n));
        for (int d : devices) {
            int[] counts = new int[4];
            Device of = sides[s].devices.get(d);
            for (int k = 0; k < 4; k++) {
                counts[groups[of.kind][k]] += of.pins[k] == n ? 1 : 0;
            }
            sort.append(Arrays.toString(counts));
        }
        return sort.toString();
    }

    private boolean netsFit(List<Integer> partners) {
        List<Integer> mine = sides[0].present().subList(0, partners.size());
        List<String> sorts0 = new ArrayList<>();
        List<String> sorts1 = new ArrayList<>();
        for (int n : sides[0].usedNets()) {
            sorts0.add(netSort(0, n, mine));
        }
        for (int n : sides[1].usedNets()) {
            sorts1.add(netSort(1, n, partners));
        }
        Collections.sort(sorts0);
        Collections.sort(sorts1);
        return sorts0.equals(sorts1);
    }

    private void keep(List<Integer> partners) {
        devicePairs = new TreeMap<>();
        netPairs = new TreeMap<>();
        List<Integer> mine = sides[0].present();
        for (int i = 0; i < mine.size(); i++) {
            devicePairs.put(mine.get(i), partners.get(i));
        }
        for (int n : sides[0].usedNets()) {
            for (int m : sides[1].usedNets()) {
                if (!netPairs.containsValue(m)
                        && netSort(0, n, mine).equals(netSort(1, m, partners))) {
                    netPairs.put(n, m);
                    break;
                }
            }
        }
    }

    private void listDifferences() {
        for (int kind = 0; kind < 8; kind++) {
            int[] counts = new int[2];
            for (int s = 0; s < 2; s++) {
                for (int d : sides[s].present()) {
                    counts[s] += sides[s].devices.get(d).kind == kind ? 1 : 0;
                }
            }
            addIfUneven(1, kind, counts[0], counts[1]);
        }
        addIfUneven(2, 0, sides[0].usedNets().size(), sides[1].usedNets().size());
        TreeSet<Integer> names = new TreeSet<>(sides[0].portNames());
        names.addAll(sides[1].portNames());
        for (int name : names) {
            addIfUneven(3, name, sides[0].ports.contains(name) ? 1 : 0,
                sides[1].ports.contains(name) ? 1 : 0);
        }
        if (differences.isEmpty()) {
            TreeSet<Integer> seen = new TreeSet<>();
            for (int s = 0; s < 2; s++) {
                for (int d : sides[s].present()) {
                    int number = deviceClasses.get(s + ":" + d);
                    if (seen.add(number)) {
                        addIfUneven(4, d, membersOf(0, number), membersOf(1, number));
                    }
                }
            }
        }
        if (differences.isEmpty()) {
            differences.add(new int[] {5, 0, 0, 0});
        }
    }

    private void addIfUneven(int sort, int what, int ofFirst, int ofSecond) {
        if (ofFirst != ofSecond) {
            differences.add(new int[] {sort, what, ofFirst, ofSecond});
        }
    }

    int match(int s, int device) {
        Design of = side(s);
        inRange(device, of.devices.size());
        if (of.devices.get(device).gone || devicePairs == null) {
            return NONE;
        }
        if (s == 0) {
            return devicePairs.getOrDefault(device, NONE);
        }
        for (Map.Entry<Integer, Integer> e : devicePairs.entrySet()) {
            if (e.getValue() == device) {
                return e.getKey();
            }
        }
        return NONE;
    }

    int netMatch(int net) {
        inRange(net, sides[0].ports.size());
        return netPairs == null ? NONE : netPairs.getOrDefault(net, NONE);
    }

    int differs(int k, int what) {
        inRange(k, differences.size());
        inRange(what, 4);
        return differences.get(k)[what];
    }

    int rounds() {
        return rounds;
    }

    int tried() {
        return tried;
    }

    boolean tested() {
        if (devicePairs == null) {
            return false;
        }
        Map<Integer, Integer> devices = new TreeMap<>(devicePairs);
        devices.entrySet().removeIf(e -> sides[0].devices.get(e.getKey()).gone
            || sides[1].devices.get(e.getValue()).gone);
        List<Integer> used0 = sides[0].usedNets();
        List<Integer> used1 = sides[1].usedNets();
        Map<Integer, Integer> nets = new TreeMap<>(netPairs);
        nets.entrySet().removeIf(e -> !used0.contains(e.getKey()) || !used1.contains(e.getValue()));
        return isMatch(devices, nets);
    }

    /** Whether pairs of devices and of nets are a match, by its definition alone. */
    boolean isMatch(Map<Integer, Integer> devices, Map<Integer, Integer> nets) {
        if (!new ArrayList<>(devices.keySet()).equals(sides[0].present())
                || !new ArrayList<>(new TreeSet<>(devices.values())).equals(sides[1].present())
                || !new ArrayList<>(nets.keySet()).equals(sides[0].usedNets())
                || !new ArrayList<>(new TreeSet<>(nets.values())).equals(sides[1].usedNets())
                || devices.size() != sides[1].present().size()
                || nets.size() != sides[1].usedNets().size()) {
            return false;
        }
        for (Map.Entry<Integer, Integer> e : devices.entrySet()) {
            Device one = sides[0].devices.get(e.getKey());
            Device other = sides[1].devices.get(e.getValue());
            if (one.kind != other.kind || !agree(one.kind, one.size, other.size)) {
                return false;
            }
        }
        for (Map.Entry<Integer, Integer> n : nets.entrySet()) {
            if (!sides[0].ports.get(n.getKey()).equals(sides[1].ports.get(n.getValue()))) {
                return false;
            }
            for (Map.Entry<Integer, Integer> e : devices.entrySet()) {
                if (!netSort(0, n.getKey(), List.of(e.getKey())).equals(
                        netSort(1, n.getValue(), List.of(e.getValue())))) {
                    return false;
                }
            }
        }
        return true;
    }

    /** The first match by going over all pairings of devices, then of nets, in order; or null. */
    List<Map<Integer, Integer>> firstMatchOfAll() {
        if (sides[0].present().size() != sides[1].present().size()
                || sides[0].usedNets().size() != sides[1].usedNets().size()) {
            return null;
        }
        for (Map<Integer, Integer> devices : pairings(sides[0].present(), sides[1].present())) {
            for (Map<Integer, Integer> nets : pairings(sides[0].usedNets(), sides[1].usedNets())) {
                if (isMatch(devices, nets)) {
                    return List.of(devices, nets);
                }
            }
        }
        return null;
    }

    private static List<Map<Integer, Integer>> pairings(List<Integer> mine, List<Integer> others) {
        List<Map<Integer, Integer>> all = new ArrayList<>();
        if (mine.isEmpty()) {
            all.add(new TreeMap<>());
            return all;
        }
        for (int i = 0; i < others.size(); i++) {
            List<Integer> rest = new ArrayList<>(others);
            rest.remove(i);
            for (Map<Integer, Integer> of : pairings(mine.subList(1, mine.size()), rest)) {
                of.put(mine.get(0), others.get(i));
                all.add(of);
            }
        }
        return all;
    }
}
