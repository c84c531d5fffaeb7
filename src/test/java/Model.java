import java.util.ArrayList;
import java.util.List;
import java.util.Map;
import java.util.TreeMap;
import java.util.TreeSet;

/** The document once more, by other means than the class: slow, with maps, sets and whole curves. */
final class Model {
    /** What the class has to throw. */
    static final class Refusal extends RuntimeException {
        private static final long serialVersionUID = 1L;
        final Class<?> due;

        Refusal(Class<?> due) {
            this.due = due;
        }
    }

    private static final class Box {
        int number;
        int epoch;
    }

    private static final class Keeper {
        int zone;
        int price;
        int risk;
        int lie;
        boolean noted;
    }

    private static final class Secret {
        int threshold;
        int zones;
        int date;
        int epoch;
        TreeSet<Integer> courts = new TreeSet<>();
        TreeMap<Integer, Box> boxes = new TreeMap<>();
    }

    private record Entry(int kind, int subject, int day, int leaf) {
    }

    /** The best curve of a group. */
    private static final class Found {
        TreeMap<Integer, Integer> gives = new TreeMap<>();
        int agree;
        boolean good;
        int[] curve;
        int liars;
    }

    private final List<Keeper> keepers = new ArrayList<>();
    private final List<Secret> secrets = new ArrayList<>();
    private final List<Entry> entries = new ArrayList<>();
    private int luck = 23;
    private int day;
    private int refused;
    private int failed;
    private int messages;

    // ---- curves

    private static int power(int x, int n) {
        return n == 0 ? 1 : x * power(x, n - 1) % 97;
    }

    private static int at(int[] curve, int x) {
        int sum = 0;
        for (int n = 0; n < curve.length; n++) {
            sum += curve[n] * power(x, n);
        }
        return sum % 97;
    }

    private int[] drawCurve(int first, int order) {
        int[] curve = new int[order];
        curve[0] = first;
        for (int n = 1; n < order; n++) {
            luck = (77 * luck + 31) % 256;
            curve[n] = luck * 97 / 256;
        }
        return curve;
    }

    private static int divide(int a, int b) {
        for (int x = 0; x < 97; x++) {
            if (x * b % 97 == a % 97) {
                return x;
            }
        }
        throw new AssertionError("no quotient");
    }

    /** The curve through as many points as its order: their equations are solved, one number after another. */
    private static int[] solve(List<int[]> points) {
        int t = points.size();
        int[][] rows = new int[t][t + 1];
        for (int r = 0; r < t; r++) {
            for (int n = 0; n < t; n++) {
                rows[r][n] = power(points.get(r)[0], n);
            }
            rows[r][t] = points.get(r)[1];
        }
        for (int n = 0; n < t; n++) {
            int from = n;
            while (rows[from][n] == 0) {
                from++;
            }
            int[] row = rows[from];
            rows[from] = rows[n];
            rows[n] = row;
            int first = row[n];
            for (int c = 0; c <= t; c++) {
                row[c] = divide(row[c], first);
            }
            for (int r = 0; r < t; r++) {
                int times = rows[r][n];
                for (int c = 0; r != n && c <= t; c++) {
                    rows[r][c] = Math.floorMod(rows[r][c] - times * row[c], 97);
                }
            }
        }
        int[] curve = new int[t];
        for (int n = 0; n < t; n++) {
            curve[n] = rows[n][t];
        }
        return curve;
    }

    // ---- groups

    private TreeMap<Integer, Integer> givesOf(Secret it, int set) {
        TreeMap<Integer, Integer> gives = new TreeMap<>();
        for (Map.Entry<Integer, Box> box : it.boxes.entrySet()) {
            int k = box.getKey();
            if ((set & 1 << k) != 0 && box.getValue().epoch == it.epoch) {
                gives.put(k, (box.getValue().number + keepers.get(k).lie) % 97);
            }
        }
        return gives;
    }

    private Found decode(Secret it, int set) {
        Found found = new Found();
        found.gives = givesOf(it, set);
        int t = it.threshold;
        List<Integer> members = new ArrayList<>(found.gives.keySet());
        tryAll(found, members, new ArrayList<>(), 0, t);
        int n = members.size();
        found.good = n >= t && n - found.agree <= (n - t) / 2;
        for (int k : members) {
            if (found.good && at(found.curve, k + 1) != found.gives.get(k)) {
                found.liars += 1 << k;
            }
        }
        return found;
    }

    private static void tryAll(Found found, List<Integer> members, List<int[]> chosen, int from, int t) {
        if (chosen.size() == t) {
            int[] curve = solve(chosen);
            int agree = 0;
            for (int k : members) {
                agree += at(curve, k + 1) == found.gives.get(k) ? 1 : 0;
            }
            if (agree > found.agree) {
                found.agree = agree;
                found.curve = curve;
            }
            return;
        }
        for (int i = from; i < members.size(); i++) {
            chosen.add(new int[] {members.get(i) + 1, found.gives.get(members.get(i))});
            tryAll(found, members, chosen, i + 1, t);
            chosen.remove(chosen.size() - 1);
        }
    }

    private int zonesIn(Iterable<Integer> members) {
        TreeSet<Integer> zones = new TreeSet<>();
        for (int k : members) {
            zones.add(keepers.get(k).zone);
        }
        return zones.size();
    }

    private boolean lawful(Secret it, Found found) {
        return zonesIn(found.gives.keySet()) >= it.zones && day >= it.date && it.courts.isEmpty();
    }

    // ---- what is refused

    private Secret secret(int s) {
        if (s < 0 || s >= secrets.size()) {
            throw new Refusal(IndexOutOfBoundsException.class);
        }
        return secrets.get(s);
    }

    private Keeper one(int k) {
        if (k < 0 || k >= keepers.size()) {
            throw new Refusal(IndexOutOfBoundsException.class);
        }
        return keepers.get(k);
    }

    private static void index(boolean is) {
        if (!is) {
            throw new Refusal(IndexOutOfBoundsException.class);
        }
    }

    private static void argument(boolean is) {
        if (!is) {
            throw new Refusal(IllegalArgumentException.class);
        }
    }

    private static void state(boolean is) {
        if (!is) {
            throw new Refusal(IllegalStateException.class);
        }
    }

    private static boolean in(int x, int least, int most) {
        return least <= x && x <= most;
    }

    private boolean isSet(int set) {
        return in(set, 0, (1 << keepers.size()) - 1);
    }

    private void enter(int kind, int subject) {
        int e = entries.size();
        if (e < 64) {
            entries.add(new Entry(kind, subject, day, (kind * 1009 + 31 * subject + 7 * day + e) % 9973));
        }
    }

    // ---- keepers and secrets

    int keeper(int zone, int price, int risk) {
        argument(in(zone, 0, 3) && in(price, 1, 99) && in(risk, 0, 100));
        state(keepers.size() < 8);
        Keeper one = new Keeper();
        one.zone = zone;
        one.price = price;
        one.risk = risk;
        keepers.add(one);
        return keepers.indexOf(one);
    }

    int lie(int keeper, int lie) {
        Keeper one = one(keeper);
        argument(in(lie, 0, 96));
        int before = one.lie;
        one.lie = lie;
        return before;
    }

    int deal(int value, int threshold, int zones, int date, int set) {
        argument(in(value, 0, 96) && in(threshold, 1, 4) && in(zones, 1, 4) && in(date, 0, 999));
        argument(isSet(set) && Integer.bitCount(set) >= threshold);
        state(secrets.size() < 6);
        Secret it = new Secret();
        it.threshold = threshold;
        it.zones = zones;
        it.date = date;
        int[] curve = drawCurve(value, threshold);
        for (int k = 0; k < keepers.size(); k++) {
            if ((set & 1 << k) != 0) {
                it.boxes.put(k, box(at(curve, k + 1), 0));
            }
        }
        secrets.add(it);
        enter(0, secrets.indexOf(it));
        return secrets.indexOf(it);
    }

    private static Box box(int number, int epoch) {
        Box box = new Box();
        box.number = number;
        box.epoch = epoch;
        return box;
    }

    int fresh(int secret, int awake) {
        Secret it = secret(secret);
        argument(isSet(awake));
        TreeSet<Integer> count = new TreeSet<>(givesOf(it, awake).keySet());
        state(count.size() >= it.threshold);
        int[] curve = drawCurve(0, it.threshold);
        it.epoch++;
        for (int k : count) {
            it.boxes.put(k, box((it.boxes.get(k).number + at(curve, k + 1)) % 97, it.epoch));
        }
        enter(1, secret);
        return it.boxes.size() - count.size();
    }

    int flood(int zone) {
        index(in(zone, 0, 3));
        int gone = 0;
        for (Secret it : secrets) {
            int before = it.boxes.size();
            it.boxes.keySet().removeIf(k -> keepers.get(k).zone == zone);
            gone += before - it.boxes.size();
        }
        enter(2, zone);
        return gone;
    }

    int rebuild(int secret, int keeper, int helpers) {
        Secret it = secret(secret);
        one(keeper);
        argument(isSet(helpers));
        state(!it.boxes.containsKey(keeper) || it.boxes.get(keeper).epoch < it.epoch);
        Found found = decode(it, helpers & ~(1 << keeper));
        state(found.good);
        it.boxes.put(keeper, box(at(found.curve, keeper + 1), it.epoch));
        int n = found.gives.size();
        messages += n * n;
        enter(3, secret);
        return n * n;
    }

    // ---- doors

    int freeze(int court, int secret, boolean is) {
        index(in(court, 0, 1));
        Secret it = secret(secret);
        if (is) {
            it.courts.add(court);
        } else {
            it.courts.remove(court);
        }
        return it.courts.size();
    }

    int pass(int days) {
        argument(in(days, 1, 365));
        state(day + days <= 999);
        day += days;
        return day;
    }

    int open(int secret, int set) {
        Secret it = secret(secret);
        argument(isSet(set));
        Found found = decode(it, set);
        if (!lawful(it, found)) {
            refused++;
            enter(5, secret);
            return -1;
        }
        if (!found.good) {
            failed++;
            enter(6, secret);
            return -2;
        }
        for (int k = 0; k < keepers.size(); k++) {
            keepers.get(k).noted |= (found.liars & 1 << k) != 0;
        }
        enter(4, secret);
        return found.curve[0];
    }

    int knock() {
        return ++refused;
    }

    // ---- what is asked

    int ofKeeper(int keeper, int what) {
        Keeper one = one(keeper);
        argument(in(what, 0, 6));
        int has = 0;
        int stale = 0;
        for (Secret it : secrets) {
            has += it.boxes.containsKey(keeper) ? 1 : 0;
            stale += it.boxes.containsKey(keeper) && it.boxes.get(keeper).epoch != it.epoch ? 1 : 0;
        }
        return new int[] {one.zone, one.price, one.risk, one.lie, one.noted ? 1 : 0, has, stale}[what];
    }

    private int holders(Secret it, boolean isStale) {
        int set = 0;
        for (int k : it.boxes.keySet()) {
            set += (it.boxes.get(k).epoch != it.epoch) == isStale ? 1 << k : 0;
        }
        return set;
    }

    int ofSecret(int secret, int what) {
        Secret it = secret(secret);
        argument(in(what, 0, 8));
        int price = -1;
        int who = 0;
        List<Integer> order = new ArrayList<>(givesOf(it, 255).keySet());
        order.sort((a, b) -> keepers.get(a).price - keepers.get(b).price);
        if (order.size() >= it.threshold) {
            price = 0;
            for (int k : order.subList(0, it.threshold)) {
                price += keepers.get(k).price;
                who += 1 << k;
            }
        }
        return new int[] {it.threshold, it.zones, it.date, it.epoch, holders(it, false), holders(it, true),
            it.courts.size(), price, who}[what];
    }

    int share(int secret, int keeper, int what) {
        Secret it = secret(secret);
        Keeper one = one(keeper);
        argument(in(what, 0, 2));
        Box box = it.boxes.get(keeper);
        return box == null ? -1 : new int[] {box.number, box.epoch, (box.number + one.lie) % 97}[what];
    }

    int bank(int what) {
        argument(in(what, 0, 11));
        int noted = 0;
        for (Keeper one : keepers) {
            noted += one.noted ? 1 : 0;
        }
        int good = 0;
        int stale = 0;
        for (Secret it : secrets) {
            good += Integer.bitCount(holders(it, false));
            stale += Integer.bitCount(holders(it, true));
        }
        return new int[] {keepers.size(), secrets.size(), day, luck, entries.size(), node(6, 0), refused, failed,
            messages, noted, good, stale}[what];
    }

    private int node(int row, int k) {
        return row > 0 ? (31 * node(row - 1, 2 * k) + 17 * node(row - 1, 2 * k + 1) + 5) % 9973
            : k < entries.size() ? entries.get(k).leaf() : 0;
    }

    private void hasEntry(int entry) {
        index(in(entry, 0, entries.size() - 1));
    }

    int ofEntry(int entry, int what) {
        hasEntry(entry);
        argument(in(what, 0, 3));
        Entry it = entries.get(entry);
        return new int[] {it.kind(), it.subject(), it.day(), it.leaf()}[what];
    }

    int proof(int entry, int row) {
        hasEntry(entry);
        index(in(row, 0, 5));
        int place = entry / power2(row);
        return node(row, place % 2 == 0 ? place + 1 : place - 1);
    }

    private static int power2(int n) {
        return n == 0 ? 1 : 2 * power2(n - 1);
    }

    String row(int secret) {
        Secret it = secret(secret);
        StringBuilder text = new StringBuilder();
        for (int k = 0; k < keepers.size(); k++) {
            Box box = it.boxes.get(k);
            text.append(box == null ? "." : box.epoch == it.epoch ? "o" : "s");
        }
        return text.append(it.courts.isEmpty() ? "" : "!").toString();
    }

    // ---- what would be

    int would(int secret, int set, int what) {
        Secret it = secret(secret);
        argument(isSet(set) && in(what, 0, 5));
        Found found = decode(it, set);
        return new int[] {found.gives.size(), lawful(it, found) ? 1 : 0, found.good ? 1 : 0,
            found.good ? found.curve[0] : -1, found.liars, found.agree}[what];
    }

    /** Points lie on one curve of an order, if of all their divided differences none beyond that order is left. */
    boolean may(int secret, int set, int value) {
        Secret it = secret(secret);
        argument(isSet(set) && in(value, 0, 96));
        TreeMap<Integer, Integer> gives = givesOf(it, set);
        List<int[]> points = new ArrayList<>(List.of(new int[] {0, value}));
        gives.forEach((k, y) -> points.add(new int[] {k + 1, y}));
        int[] row = points.stream().mapToInt(p -> p[1]).toArray();
        for (int order = 1; order < points.size(); order++) {
            int[] next = new int[row.length - 1];
            for (int i = 0; i < next.length; i++) {
                next[i] = divide(Math.floorMod(row[i + 1] - row[i], 97), points.get(i + order)[0] - points.get(i)[0]);
                if (order >= it.threshold && next[i] != 0) {
                    return false;
                }
            }
            row = next;
        }
        return true;
    }

    double lost(int secret) {
        Secret it = secret(secret);
        double[] p = {1.0, 0, 0, 0, 0, 0, 0, 0, 0};
        for (int k : givesOf(it, 255).keySet()) {
            int risk = keepers.get(k).risk;
            double[] next = new double[9];
            next[0] = p[0] * risk / 100.0;
            for (int n = 1; n < 9; n++) {
                next[n] = p[n] * risk / 100.0 + p[n - 1] * (100 - risk) / 100.0;
            }
            p = next;
        }
        double sum = p[0];
        for (int n = 1; n < it.threshold; n++) {
            sum += p[n];
        }
        return sum;
    }

    int fewest(int secret) {
        Secret it = secret(secret);
        List<int[]> sets = new ArrayList<>();
        for (int set = 0; set < 256; set++) {
            TreeSet<Integer> members = new TreeSet<>(givesOf(it, set).keySet());
            int price = members.stream().mapToInt(k -> keepers.get(k).price).sum();
            if (members.size() == Integer.bitCount(set) && members.size() >= it.threshold
                    && zonesIn(members) >= it.zones) {
                sets.add(new int[] {members.size(), price, set});
            }
        }
        sets.sort((a, b) -> a[0] != b[0] ? a[0] - b[0] : a[1] != b[1] ? a[1] - b[1] : a[2] - b[2]);
        return sets.isEmpty() ? 0 : sets.get(0)[2];
    }

    boolean proves(int entry, int leaf) {
        hasEntry(entry);
        argument(in(leaf, 0, 9972));
        // 31 and 17 have inverses modulo 9973, so that only one number of a place comes to the root.
        return entries.get(entry).leaf() == leaf;
    }
}
