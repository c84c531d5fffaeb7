import java.util.ArrayList;

/** A bank that keeps what nobody alone may open. */
public final class Threeboxes {
    private static final int NONE = -1;
    private static final int FAILS = -2;

    private static final int MODULUS = 97;
    private static final int MOST_KEEPERS = 8;
    private static final int MOST_SECRETS = 6;
    private static final int MOST_ZONES = 4;
    private static final int MOST_THRESHOLD = 4;
    private static final int MOST_COURTS = 2;
    private static final int LAST_DAY = 999;

    private static final int DEAL = 0;
    private static final int FRESH = 1;
    private static final int FLOOD = 2;
    private static final int REBUILT = 3;
    private static final int OPENED = 4;
    private static final int REFUSED = 5;
    private static final int FAILED = 6;

    private final ArrayList<Keeper> keeperList;
    private final ArrayList<Secret> secretList;
    private final Register register;
    private final Curve drawn;
    private final Group group;
    private final double[] chances;
    private int day;
    private int refusals;
    private int failures;
    private int messages;

    public Threeboxes() {
        keeperList = new ArrayList<Keeper>();
        secretList = new ArrayList<Secret>();
        register = new Register();
        drawn = new Curve();
        group = new Group();
        chances = new double[MOST_KEEPERS + 1];
        day = 0;
        refusals = 0;
        failures = 0;
        messages = 0;
    }

    // ---- keepers and secrets

    public int keeper(int zone, int price, int risk) throws IllegalArgumentException, IllegalStateException {
        if (!isFrom(zone, 0, MOST_ZONES - 1) || !isFrom(price, 1, 99) || !isFrom(risk, 0, 100)) {
            throw new IllegalArgumentException("no such zone, price or risk");
        }
        if (keeperList.size() >= MOST_KEEPERS) {
            throw new IllegalStateException("there are 8 keepers");
        }
        int number = keeperList.size();
        keeperList.add(new Keeper(number, zone, price, risk));
        return number;
    }

    public int lie(int keeper, int lie) throws IndexOutOfBoundsException, IllegalArgumentException {
        Keeper one = keeperAt(keeper);
        if (!isNumber(lie)) {
            throw new IllegalArgumentException("a lie is 0 to 96");
        }
        int before = one.lie;
        one.lie = lie;
        return before;
    }

    public int deal(int value, int threshold, int zones, int date, int keepers)
            throws IllegalArgumentException, IllegalStateException {
        if (!isNumber(value) || !isFrom(threshold, 1, MOST_THRESHOLD) || !isFrom(zones, 1, MOST_ZONES)
                || !isFrom(date, 0, LAST_DAY)) {
            throw new IllegalArgumentException("no such value, threshold, zones or date");
        }
        needSet(keepers);
        if (Integer.bitCount(keepers) < threshold) {
            throw new IllegalArgumentException("fewer keepers than the threshold");
        }
        if (secretList.size() >= MOST_SECRETS) {
            throw new IllegalStateException("there are 6 secrets");
        }
        Secret it = new Secret(threshold, zones, date);
        drawn.draw(value, threshold);
        for (int k = 0; k < MOST_KEEPERS; k++) {
            if (isIn(keepers, k)) {
                it.hold(k, drawn.at(pointOf(k)));
            }
        }
        int number = secretList.size();
        secretList.add(it);
        register.enter(DEAL, number, day);
        return number;
    }

    public int fresh(int secret, int awake)
            throws IndexOutOfBoundsException, IllegalArgumentException, IllegalStateException {
        Secret it = secretAt(secret);
        needSet(awake);
        int counting = awake & it.currentSet();
        if (Integer.bitCount(counting) < it.threshold) {
            throw new IllegalStateException("too few keepers count");
        }
        drawn.draw(0, it.threshold);
        it.epoch++;
        for (int k = 0; k < MOST_KEEPERS; k++) {
            if (isIn(counting, k)) {
                it.hold(k, (it.shareOf(k) + drawn.at(pointOf(k))) % MODULUS);
            }
        }
        register.enter(FRESH, secret, day);
        return Integer.bitCount(it.staleSet());
    }

    public int flood(int zone) throws IndexOutOfBoundsException {
        if (!isFrom(zone, 0, MOST_ZONES - 1)) {
            throw new IndexOutOfBoundsException("no such zone");
        }
        int gone = 0;
        for (int k = 0; k < keeperList.size(); k++) {
            if (keeperList.get(k).zone == zone) {
                gone += sharesOf(k);
                loseShares(k);
            }
        }
        register.enter(FLOOD, zone, day);
        return gone;
    }

    public int rebuild(int secret, int keeper, int helpers)
            throws IndexOutOfBoundsException, IllegalArgumentException, IllegalStateException {
        Secret it = secretAt(secret);
        keeperAt(keeper);
        needSet(helpers);
        if (it.isCurrent(keeper)) {
            throw new IllegalStateException("it has a share that is not stale");
        }
        // A keeper without a current share is in no group: it need not be taken out of the helpers.
        gatherGroup(it, helpers);
        group.decode();
        if (!group.isGood()) {
            throw new IllegalStateException("the group is not good");
        }
        it.hold(keeper, group.curveAt(pointOf(keeper)));
        if (isAnyLying(group.members())) {
            it.isByLiars = true;
        }
        int told = group.size() * group.size();
        messages += told;
        register.enter(REBUILT, secret, day);
        return told;
    }

    // ---- doors

    public int freeze(int court, int secret, boolean is) throws IndexOutOfBoundsException {
        if (!isFrom(court, 0, MOST_COURTS - 1)) {
            throw new IndexOutOfBoundsException("no such court");
        }
        Secret it = secretAt(secret);
        int its = 1 << court;
        it.frozenBy = is ? it.frozenBy | its : it.frozenBy & ~its;
        return Integer.bitCount(it.frozenBy);
    }

    public int pass(int days) throws IllegalArgumentException, IllegalStateException {
        if (!isFrom(days, 1, 365)) {
            throw new IllegalArgumentException("days are 1 to 365");
        }
        if (day + days > LAST_DAY) {
            throw new IllegalStateException("the day would be above 999");
        }
        day += days;
        return day;
    }

    public int open(int secret, int keepers) throws IndexOutOfBoundsException, IllegalArgumentException {
        Secret it = secretAt(secret);
        needSet(keepers);
        gatherGroup(it, keepers);
        group.decode();
        if (!isLawful(it, group.members())) {
            refusals++;
            register.enter(REFUSED, secret, day);
            return NONE;
        }
        if (!group.isGood()) {
            failures++;
            register.enter(FAILED, secret, day);
            return FAILS;
        }
        noteAll(group.liars());
        register.enter(OPENED, secret, day);
        return group.curveAt(0);
    }

    public int knock() {
        refusals++;
        return refusals;
    }

    // ---- what is asked

    public int ofKeeper(int keeper, int what) throws IndexOutOfBoundsException, IllegalArgumentException {
        Keeper one = keeperAt(keeper);
        if (!isFrom(what, 0, 6)) {
            throw new IllegalArgumentException("what is 0 to 6");
        }
        return tellOfKeeper(one, what);
    }

    public int ofSecret(int secret, int what) throws IndexOutOfBoundsException, IllegalArgumentException {
        Secret it = secretAt(secret);
        if (!isFrom(what, 0, 8)) {
            throw new IllegalArgumentException("what is 0 to 8");
        }
        return tellOfSecret(it, what);
    }

    public int share(int secret, int keeper, int what) throws IndexOutOfBoundsException, IllegalArgumentException {
        Secret it = secretAt(secret);
        Keeper one = keeperAt(keeper);
        if (!isFrom(what, 0, 2)) {
            throw new IllegalArgumentException("what is 0 to 2");
        }
        return tellOfShare(it, one, what);
    }

    public int bank(int what) throws IllegalArgumentException {
        if (!isFrom(what, 0, 11)) {
            throw new IllegalArgumentException("what is 0 to 11");
        }
        return tellOfBank(what);
    }

    public int ofEntry(int entry, int what) throws IndexOutOfBoundsException, IllegalArgumentException {
        needEntry(entry);
        if (!isFrom(what, 0, 3)) {
            throw new IllegalArgumentException("what is 0 to 3");
        }
        return register.tell(entry, what);
    }

    public int proof(int entry, int row) throws IndexOutOfBoundsException {
        needEntry(entry);
        if (!isFrom(row, 0, Register.ROWS - 1)) {
            throw new IndexOutOfBoundsException("no such row");
        }
        return register.beside(entry, row);
    }

    public String row(int secret) throws IndexOutOfBoundsException {
        Secret it = secretAt(secret);
        StringBuilder text = new StringBuilder();
        for (int k = 0; k < keeperList.size(); k++) {
            text.append(!it.has(k) ? '.' : it.isCurrent(k) ? 'o' : 's');
        }
        if (it.frozenBy != 0) {
            text.append('!');
        }
        return text.toString();
    }

    // ---- what would be (nothing is changed)

    public int would(int secret, int keepers, int what) throws IndexOutOfBoundsException, IllegalArgumentException {
        Secret it = secretAt(secret);
        needSet(keepers);
        if (!isFrom(what, 0, 5)) {
            throw new IllegalArgumentException("what is 0 to 5");
        }
        gatherGroup(it, keepers);
        group.decode();
        return tellOfGroup(it, what);
    }

    public boolean may(int secret, int keepers, int value)
            throws IndexOutOfBoundsException, IllegalArgumentException {
        Secret it = secretAt(secret);
        needSet(keepers);
        if (!isNumber(value)) {
            throw new IllegalArgumentException("a value is 0 to 96");
        }
        gatherGroup(it, keepers);
        // The first number of a curve is what it has at the point 0.
        group.give(0, value);
        return group.isOnOneCurve();
    }

    public double lost(int secret) throws IndexOutOfBoundsException {
        return chanceLost(secretAt(secret));
    }

    public int fewest(int secret) throws IndexOutOfBoundsException {
        return fewestOf(secretAt(secret));
    }

    public boolean proves(int entry, int leaf) throws IndexOutOfBoundsException, IllegalArgumentException {
        needEntry(entry);
        if (!isFrom(leaf, 0, Register.LEAF_MODULUS - 1)) {
            throw new IllegalArgumentException("a leaf is 0 to 9972");
        }
        return register.comesToRoot(entry, leaf);
    }

    public boolean isSound() {
        for (int k = 0; k < keeperList.size(); k++) {
            if (!isNumber(keeperList.get(k).lie)) {
                return false;
            }
        }
        for (int s = 0; s < secretList.size(); s++) {
            if (!isSecretSound(secretList.get(s))) {
                return false;
            }
        }
        return register.isWhole();
    }

    public long digest() {
        long d = 7507;
        for (int what = 0; what <= 11; what++) {
            d = d * 31 + tellOfBank(what);
        }
        for (int k = 0; k < keeperList.size(); k++) {
            for (int what = 0; what <= 6; what++) {
                d = d * 31 + tellOfKeeper(keeperList.get(k), what);
            }
        }
        for (int s = 0; s < secretList.size(); s++) {
            d = digestSecret(d, secretList.get(s));
        }
        for (int entry = 0; entry < register.size(); entry++) {
            d = d * 31 + register.leafOf(entry);
        }
        return d * 31 + (isSound() ? 1 : 0);
    }

    private long digestSecret(long before, Secret it) {
        long d = before;
        for (int what = 0; what <= 8; what++) {
            d = d * 31 + tellOfSecret(it, what);
        }
        for (int k = 0; k < keeperList.size(); k++) {
            for (int what = 0; what <= 2; what++) {
                d = d * 31 + tellOfShare(it, keeperList.get(k), what);
            }
        }
        gatherGroup(it, allKeepers());
        group.decode();
        for (int what = 0; what <= 5; what++) {
            d = d * 31 + tellOfGroup(it, what);
        }
        d = d * 31 + fewestOf(it);
        return d * 31 + (long) (4096.0 * chanceLost(it));
    }

    // ---- what arguments must be

    private static boolean isFrom(int number, int least, int most) {
        return number >= least && number <= most;
    }

    private static boolean isNumber(int number) {
        return isFrom(number, 0, MODULUS - 1);
    }

    private static boolean isIn(int set, int number) {
        return (set >> number & 1) == 1;
    }

    private static int pointOf(int keeper) {
        return keeper + 1;
    }

    private int allKeepers() {
        return (1 << keeperList.size()) - 1;
    }

    private void needSet(int set) {
        if (!isFrom(set, 0, allKeepers())) {
            throw new IllegalArgumentException("no set of keepers that there are");
        }
    }

    private void needEntry(int entry) {
        if (!isFrom(entry, 0, register.size() - 1)) {
            throw new IndexOutOfBoundsException("no such entry");
        }
    }

    private Keeper keeperAt(int keeper) {
        if (keeper < 0 || keeper >= keeperList.size()) {
            throw new IndexOutOfBoundsException("no such keeper");
        }
        return keeperList.get(keeper);
    }

    private Secret secretAt(int secret) {
        if (secret < 0 || secret >= secretList.size()) {
            throw new IndexOutOfBoundsException("no such secret");
        }
        return secretList.get(secret);
    }

    // ---- keepers and their shares

    private int sharesOf(int keeper) {
        int count = 0;
        for (int s = 0; s < secretList.size(); s++) {
            if (secretList.get(s).has(keeper)) {
                count++;
            }
        }
        return count;
    }

    private int staleSharesOf(int keeper) {
        int count = 0;
        for (int s = 0; s < secretList.size(); s++) {
            if (secretList.get(s).isStale(keeper)) {
                count++;
            }
        }
        return count;
    }

    private void loseShares(int keeper) {
        for (int s = 0; s < secretList.size(); s++) {
            secretList.get(s).lose(keeper);
        }
    }

    private int currentShares() {
        int count = 0;
        for (int s = 0; s < secretList.size(); s++) {
            count += Integer.bitCount(secretList.get(s).currentSet());
        }
        return count;
    }

    private int staleShares() {
        int count = 0;
        for (int s = 0; s < secretList.size(); s++) {
            count += Integer.bitCount(secretList.get(s).staleSet());
        }
        return count;
    }

    private void noteAll(int set) {
        for (int k = 0; k < keeperList.size(); k++) {
            if (isIn(set, k)) {
                keeperList.get(k).isNoted = true;
            }
        }
    }

    private int notedKeepers() {
        int count = 0;
        for (int k = 0; k < keeperList.size(); k++) {
            if (keeperList.get(k).isNoted) {
                count++;
            }
        }
        return count;
    }

    private boolean isAnyLying(int set) {
        for (int k = 0; k < keeperList.size(); k++) {
            if (isIn(set, k) && keeperList.get(k).lie != 0) {
                return true;
            }
        }
        return false;
    }

    // ---- groups and the law

    private void gatherGroup(Secret it, int set) {
        group.begin(it.threshold);
        for (int k = 0; k < keeperList.size(); k++) {
            if (isIn(set, k) && it.isCurrent(k)) {
                group.give(pointOf(k), it.shareOf(k) + keeperList.get(k).lie);
            }
        }
    }

    private int zonesOf(int set) {
        int zones = 0;
        for (int k = 0; k < keeperList.size(); k++) {
            if (isIn(set, k)) {
                zones |= 1 << keeperList.get(k).zone;
            }
        }
        return Integer.bitCount(zones);
    }

    private boolean isLawful(Secret it, int set) {
        return zonesOf(set) >= it.zones && day >= it.date && it.frozenBy == 0;
    }

    // ---- what it costs, what may go

    private int priceOf(int set) {
        int price = 0;
        for (int k = 0; k < keeperList.size(); k++) {
            if (isIn(set, k)) {
                price += keeperList.get(k).price;
            }
        }
        return price;
    }

    /** The cheapest one of a set, as a set; none of none. */
    private int cheapestOf(int set) {
        int cheapest = 0;
        int least = 0;
        for (int k = 0; k < keeperList.size(); k++) {
            int price = keeperList.get(k).price;
            if (isIn(set, k) && (cheapest == 0 || price < least)) {
                cheapest = 1 << k;
                least = price;
            }
        }
        return cheapest;
    }

    private int boughtOf(Secret it) {
        int left = it.currentSet();
        if (Integer.bitCount(left) < it.threshold) {
            return 0;
        }
        int bought = 0;
        for (int n = 0; n < it.threshold; n++) {
            int next = cheapestOf(left);
            bought |= next;
            left &= ~next;
        }
        return bought;
    }

    private int fewestOf(Secret it) {
        int holders = it.currentSet();
        int best = 0;
        for (int set = 1; set <= holders; set++) {
            boolean isEnough = (set & ~holders) == 0 && Integer.bitCount(set) >= it.threshold;
            if (isEnough && zonesOf(set) >= it.zones && (best == 0 || isLess(set, best))) {
                best = set;
            }
        }
        return best;
    }

    private boolean isLess(int set, int other) {
        int more = Integer.bitCount(set) - Integer.bitCount(other);
        return more < 0 || more == 0 && priceOf(set) < priceOf(other);
    }

    private double chanceLost(Secret it) {
        for (int n = 0; n < chances.length; n++) {
            chances[n] = n == 0 ? 1.0 : 0.0;
        }
        for (int k = 0; k < keeperList.size(); k++) {
            if (it.isCurrent(k)) {
                riskOne(keeperList.get(k).risk);
            }
        }
        double sum = 0.0;
        for (int n = 0; n < it.threshold && n < chances.length; n++) {
            sum += chances[n];
        }
        return sum;
    }

    private void riskOne(int risk) {
        for (int n = chances.length - 1; n >= 1; n--) {
            chances[n] = chances[n] * risk / 100.0 + chances[n - 1] * (100 - risk) / 100.0;
        }
        if (chances.length > 0) {
            chances[0] = chances[0] * risk / 100.0;
        }
    }

    // ---- what is told of each

    private int tellOfKeeper(Keeper one, int what) {
        switch (what) {
            case 0: return one.zone;
            case 1: return one.price;
            case 2: return one.risk;
            case 3: return one.lie;
            case 4: return one.isNoted ? 1 : 0;
            case 5: return sharesOf(one.number);
            default: return staleSharesOf(one.number);
        }
    }

    private int tellOfSecret(Secret it, int what) {
        switch (what) {
            case 0: return it.threshold;
            case 1: return it.zones;
            case 2: return it.date;
            case 3: return it.epoch;
            case 4: return it.currentSet();
            case 5: return it.staleSet();
            case 6: return Integer.bitCount(it.frozenBy);
            case 7: return boughtFor(it);
            default: return boughtOf(it);
        }
    }

    private int boughtFor(Secret it) {
        int bought = boughtOf(it);
        return bought == 0 ? NONE : priceOf(bought);
    }

    private int tellOfShare(Secret it, Keeper one, int what) {
        if (!it.has(one.number)) {
            return NONE;
        }
        switch (what) {
            case 0: return it.shareOf(one.number);
            case 1: return it.epochOf(one.number);
            default: return (it.shareOf(one.number) + one.lie) % MODULUS;
        }
    }

    private int tellOfBank(int what) {
        switch (what) {
            case 0: return keeperList.size();
            case 1: return secretList.size();
            case 2: return day;
            case 3: return drawn.luck;
            case 4: return register.size();
            case 5: return register.root();
            case 6: return refusals;
            case 7: return failures;
            case 8: return messages;
            case 9: return notedKeepers();
            case 10: return currentShares();
            default: return staleShares();
        }
    }

    private int tellOfGroup(Secret it, int what) {
        switch (what) {
            case 0: return group.size();
            case 1: return isLawful(it, group.members()) ? 1 : 0;
            case 2: return group.isGood() ? 1 : 0;
            case 3: return group.isGood() ? group.curveAt(0) : NONE;
            case 4: return group.isGood() ? group.liars() : 0;
            default: return group.agreed();
        }
    }

    private boolean isSecretSound(Secret it) {
        group.begin(it.threshold);
        for (int k = 0; k < MOST_KEEPERS; k++) {
            if (it.has(k) && (!isNumber(it.shareOf(k)) || it.epochOf(k) > it.epoch)) {
                return false;
            }
            if (it.isCurrent(k)) {
                group.give(pointOf(k), it.shareOf(k));
            }
        }
        return it.isByLiars || group.isOnOneCurve();
    }

    private static final class Keeper {
        final int number;
        final int zone;
        final int price;
        final int risk;
        int lie;
        boolean isNoted;

        Keeper(int number, int zone, int price, int risk) {
            this.number = number;
            this.zone = zone;
            this.price = price;
            this.risk = risk;
            lie = 0;
            isNoted = false;
        }
    }

    private static final class Secret {
        final int threshold;
        final int zones;
        final int date;
        private final int[] shares;
        private final int[] epochs;
        int epoch;
        int frozenBy;
        /** Whether a share of it was ever rebuilt by a group of which one lied. */
        boolean isByLiars;

        Secret(int threshold, int zones, int date) {
            this.threshold = threshold;
            this.zones = zones;
            this.date = date;
            shares = new int[MOST_KEEPERS];
            epochs = new int[MOST_KEEPERS];
            for (int k = 0; k < MOST_KEEPERS; k++) {
                shares[k] = NONE;
                epochs[k] = NONE;
            }
            epoch = 0;
            frozenBy = 0;
            isByLiars = false;
        }

        int shareOf(int keeper) {
            return keeper >= 0 && keeper < shares.length ? shares[keeper] : NONE;
        }

        int epochOf(int keeper) {
            return keeper >= 0 && keeper < epochs.length ? epochs[keeper] : NONE;
        }

        boolean has(int keeper) {
            return epochOf(keeper) != NONE;
        }

        boolean isCurrent(int keeper) {
            return has(keeper) && epochOf(keeper) == epoch;
        }

        boolean isStale(int keeper) {
            return has(keeper) && epochOf(keeper) != epoch;
        }

        void hold(int keeper, int share) {
            put(keeper, share, epoch);
        }

        void lose(int keeper) {
            put(keeper, NONE, NONE);
        }

        private void put(int keeper, int share, int made) {
            if (keeper >= 0 && keeper < shares.length && keeper < epochs.length) {
                shares[keeper] = share;
                epochs[keeper] = made;
            }
        }

        int currentSet() {
            int set = 0;
            for (int k = 0; k < MOST_KEEPERS; k++) {
                if (isCurrent(k)) {
                    set |= 1 << k;
                }
            }
            return set;
        }

        int staleSet() {
            int set = 0;
            for (int k = 0; k < MOST_KEEPERS; k++) {
                if (isStale(k)) {
                    set |= 1 << k;
                }
            }
            return set;
        }
    }

    /** The curve that was drawn last, and the luck by which the next one is. */
    private static final class Curve {
        private final int[] numbers;
        int luck;

        Curve() {
            numbers = new int[MOST_THRESHOLD];
            luck = 23;
        }

        void draw(int first, int order) {
            for (int n = 0; n < numbers.length; n++) {
                numbers[n] = n == 0 ? first : n < order ? nextNumber() : 0;
            }
        }

        private int nextNumber() {
            luck = (77 * luck + 31) % 256;
            return luck * MODULUS / 256;
        }

        int at(int point) {
            int sum = 0;
            for (int n = numbers.length - 1; n >= 0; n--) {
                sum = (sum * point + numbers[n]) % MODULUS;
            }
            return sum;
        }
    }

    /** What the members of a group give, point by point, and the curve with which the most of them agree. */
    private static final class Group {
        private final int[] inverses;
        private final int[] given;
        private int order;
        private int points;
        /** The points through which the curve was laid. */
        private int base;
        private int agreeing;

        Group() {
            inverses = new int[MODULUS];
            inverses[1] = 1;
            for (int a = 2; a < MODULUS; a++) {
                inverses[a] = (MODULUS - MODULUS / a) * inverses[MODULUS % a] % MODULUS;
            }
            given = new int[MOST_KEEPERS + 1];
            order = 1;
            points = 0;
            base = 0;
            agreeing = 0;
        }

        void begin(int threshold) {
            order = threshold;
            points = 0;
            base = 0;
            agreeing = 0;
        }

        void give(int point, int number) {
            if (point >= 0 && point < given.length) {
                given[point] = Math.floorMod(number, MODULUS);
                points |= 1 << point;
            }
        }

        void decode() {
            for (int set = 1; set <= points && agreeing != points; set++) {
                if ((set & ~points) != 0 || Integer.bitCount(set) != order) {
                    continue;
                }
                int found = agreeingWith(set);
                if (Integer.bitCount(found) > agreed()) {
                    base = set;
                    agreeing = found;
                }
            }
        }

        boolean isOnOneCurve() {
            int set = 0;
            for (int point = 0; point < given.length; point++) {
                if (isIn(points, point) && Integer.bitCount(set) < order) {
                    set |= 1 << point;
                }
            }
            return agreeingWith(set) == points;
        }

        boolean isGood() {
            return size() >= order && size() - agreed() <= (size() - order) / 2;
        }

        int size() {
            return Integer.bitCount(points);
        }

        int agreed() {
            return Integer.bitCount(agreeing);
        }

        int members() {
            return points >> 1;
        }

        int liars() {
            return (points & ~agreeing) >> 1;
        }

        int curveAt(int x) {
            return through(base, x);
        }

        private int agreeingWith(int set) {
            int found = 0;
            for (int point = 0; point < given.length; point++) {
                if (isIn(points, point) && through(set, point) == given[point]) {
                    found |= 1 << point;
                }
            }
            return found;
        }

        /** What the curve has at x that goes through what is given at the points of the set. */
        private int through(int set, int x) {
            int sum = 0;
            for (int point = 0; point < given.length; point++) {
                if (!isIn(set, point)) {
                    continue;
                }
                int part = given[point];
                for (int other = 0; other < given.length; other++) {
                    if (other != point && isIn(set, other)) {
                        part = part * Math.floorMod(x - other, MODULUS) % MODULUS;
                        part = part * inverses[Math.floorMod(point - other, MODULUS)] % MODULUS;
                    }
                }
                sum = (sum + part) % MODULUS;
            }
            return sum;
        }
    }

    /** The entries, and the tree over them: node 1 is the root, 2n and 2n + 1 lie under n, leaves begin at 64. */
    private static final class Register {
        static final int ROWS = 6;
        static final int LEAF_MODULUS = 9973;
        private static final int MOST = 64;

        private final int[] kinds;
        private final int[] subjects;
        private final int[] days;
        private final int[] tree;
        private int count;

        Register() {
            kinds = new int[MOST];
            subjects = new int[MOST];
            days = new int[MOST];
            tree = new int[2 * MOST];
            count = 0;
            for (int node = MOST - 1; node >= 1; node--) {
                joinAt(node);
            }
        }

        private static int join(int left, int right) {
            return (31 * left + 17 * right + 5) % LEAF_MODULUS;
        }

        int size() {
            return count;
        }

        void enter(int kind, int subject, int day) {
            if (count < 0 || count >= MOST) {
                return;
            }
            kinds[count] = kind;
            subjects[count] = subject;
            days[count] = day;
            int node = MOST + count;
            putAt(node, leafOf(count));
            for (int row = 0; row < ROWS; row++) {
                node >>= 1;
                joinAt(node);
            }
            count++;
        }

        private void joinAt(int node) {
            putAt(node, join(nodeAt(2 * node), nodeAt(2 * node + 1)));
        }

        private void putAt(int node, int number) {
            if (node >= 0 && node < tree.length) {
                tree[node] = number;
            }
        }

        private int nodeAt(int node) {
            return node >= 0 && node < tree.length ? tree[node] : 0;
        }

        int root() {
            return nodeAt(1);
        }

        int leafOf(int entry) {
            if (entry < 0 || entry >= MOST) {
                return 0;
            }
            return (kinds[entry] * 1009 + 31 * subjects[entry] + 7 * days[entry] + entry) % LEAF_MODULUS;
        }

        int tell(int entry, int what) {
            if (entry < 0 || entry >= MOST) {
                return NONE;
            }
            switch (what) {
                case 0: return kinds[entry];
                case 1: return subjects[entry];
                case 2: return days[entry];
                default: return leafOf(entry);
            }
        }

        int beside(int entry, int row) {
            return nodeAt((MOST + entry >> row) ^ 1);
        }

        boolean comesToRoot(int entry, int leaf) {
            int sum = leaf;
            for (int row = 0; row < ROWS; row++) {
                int other = beside(entry, row);
                sum = isIn(entry, row) ? join(other, sum) : join(sum, other);
            }
            return sum == root();
        }

        boolean isWhole() {
            for (int entry = 0; entry < count; entry++) {
                if (!comesToRoot(entry, leafOf(entry))) {
                    return false;
                }
            }
            return count <= MOST;
        }
    }
}
