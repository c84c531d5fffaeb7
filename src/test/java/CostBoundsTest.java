/** The boundaries of "What it costs, what may go", and of the promise 22. */
public final class CostBoundsTest {
    public static void main(String[] args) {
        justThresholdAreBought();
        fewerCanNotBeBought();
        ofLikePriceTheSmallerNumber();
        theLeastAndTheGreatestPrice();
        onlyThoseWithSharesAreBought();
        lostWithoutAny();
        lostByOne();
        lostByRisksOfZeroAnd100();
        lostOfEachOrder();
        onlyThoseWithSharesAreReckoned();
        noSetIsLawful();
        fewestHasThresholdAtLeast();
        fewestHasTheZones();
        fewestIsTheFewestThenTheCheapestThenTheSmallest();
        neitherDayNorCourtsMatter();
        Check.end();
    }

    private static Threeboxes ofPrices(int... prices) {
        Threeboxes bank = new Threeboxes();
        for (int k = 0; k < prices.length; k++) {
            bank.keeper(k % 4, prices[k], 50);
        }
        return bank;
    }

    private static Threeboxes ofRisks(int threshold, int... risks) {
        Threeboxes bank = new Threeboxes();
        for (int k = 0; k < risks.length; k++) {
            bank.keeper(k % 4, 1, risks[k]);
        }
        bank.deal(0, threshold, 1, 0, (1 << risks.length) - 1);
        return bank;
    }

    private static void checkBought(String when, Threeboxes bank, int price, int who) {
        Check.same(when + ": for how much", bank.ofSecret(0, 7), price);
        Check.same(when + ": who", bank.ofSecret(0, 8), who);
    }

    private static void justThresholdAreBought() {
        int[] due = {1, 4, 9, 16};
        for (int t = 1; t <= 4; t++) {
            Threeboxes bank = ofPrices(7, 5, 3, 1, 9, 11, 13, 15);
            bank.deal(5, t, 1, 0, 255);
            checkBought(t + " of eight", bank, due[t - 1], 16 - (1 << 4 - t));
            Threeboxes just = ofPrices(7, 5, 3, 1, 9, 11, 13, 15);
            just.deal(5, t, 1, 0, 16 - (1 << 4 - t));
            checkBought("all of " + t, just, due[t - 1], 16 - (1 << 4 - t));
        }
    }

    private static void fewerCanNotBeBought() {
        for (int t = 1; t <= 4; t++) {
            Threeboxes bank = ofPrices(1, 2, 3, 4);
            bank.deal(5, t, 1, 0, (1 << t) - 1);
            bank.flood(t - 1);
            checkBought("one too few of " + t, bank, -1, 0);
            Check.same("the others still have theirs", bank.ofSecret(0, 4), (1 << t - 1) - 1);
        }
    }

    private static void ofLikePriceTheSmallerNumber() {
        Threeboxes bank = ofPrices(5, 5, 5, 5, 5, 5, 5, 5);
        bank.deal(5, 3, 1, 0, 255);
        checkBought("of eight alike", bank, 15, 7);
        bank.flood(0);
        checkBought("of six alike", bank, 15, 0b00001110);
        bank.flood(1);
        checkBought("of four alike", bank, 15, 0b01001100);
        Threeboxes other = ofPrices(9, 5, 9, 5, 1, 9, 5, 5);
        other.deal(5, 3, 1, 0, 255);
        checkBought("1 and two of four alike", other, 11, 0b00011010);
    }

    private static void theLeastAndTheGreatestPrice() {
        Threeboxes bank = ofPrices(99, 99, 99, 99, 1, 99, 99, 99);
        bank.deal(5, 4, 1, 0, 255);
        checkBought("1 and three of 99", bank, 298, 0b00010111);
        bank.flood(0);
        checkBought("four of 99", bank, 396, 0b00101110);
        Threeboxes one = ofPrices(1, 1);
        one.deal(5, 1, 1, 0, 3);
        checkBought("one of 1", one, 1, 1);
    }

    private static void onlyThoseWithSharesAreBought() {
        Threeboxes bank = ofPrices(1, 2, 3, 4, 50);
        bank.deal(5, 2, 1, 0, 0b11110);
        checkBought("who never had one is not", bank, 5, 0b00110);
        bank.fresh(0, 0b11100);
        checkBought("whose share is stale is not", bank, 7, 0b01100);
        bank.flood(2);
        checkBought("whose share is lost is not", bank, 54, 0b11000);
        bank.rebuild(0, 0, 31);
        checkBought("whose share is rebuilt is", bank, 5, 0b01001);
        bank.flood(3);
        checkBought("two are left", bank, 51, 0b10001);
        bank.flood(0);
        checkBought("nobody is left", bank, -1, 0);
    }

    private static void lostWithoutAny() {
        for (int t = 1; t <= 4; t++) {
            Threeboxes bank = ofRisks(t, 0, 0, 0, 0);
            Check.same("of four who never lose", bank.lost(0), 0.0);
            for (int zone = 0; zone <= 3; zone++) {
                bank.flood(zone);
            }
            Check.same("without shares", bank.lost(0), 1.0);
        }
    }

    private static void lostByOne() {
        for (int risk = 0; risk <= 100; risk++) {
            Check.same("one of the RISK " + risk, ofRisks(1, risk).lost(0), 1.0 * risk / 100.0);
        }
    }

    private static void lostByRisksOfZeroAnd100() {
        int[] risks = {100, 0, 100, 0, 100, 0, 100, 0};
        for (int t = 1; t <= 4; t++) {
            Check.same("four are left, of the order " + t, ofRisks(t, risks).lost(0), 0.0);
            Threeboxes bank = ofRisks(t, risks);
            bank.flood(3);
            Check.same("two are left, of the order " + t, bank.lost(0), t > 2 ? 1.0 : 0.0);
            Check.same("nobody is left", ofRisks(t, 100, 100, 100, 100, 100, 100, 100, 100).lost(0), 1.0);
            Check.same("eight are left", ofRisks(t, 0, 0, 0, 0, 0, 0, 0, 0).lost(0), 0.0);
        }
    }

    /** Told as the document tells it, with other rows each time: p[k] by the p[k] and p[k - 1] ahead of it. */
    private static double reckoned(int t, int... risks) {
        double[] p = new double[10];
        p[0] = 1.0;
        for (int risk : risks) {
            double[] next = new double[10];
            next[0] = p[0] * risk / 100.0;
            for (int k = 1; k < 10; k++) {
                next[k] = p[k] * risk / 100.0 + p[k - 1] * (100 - risk) / 100.0;
            }
            p = next;
        }
        double sum = 0.0;
        for (int k = 0; k < t; k++) {
            sum += p[k];
        }
        return sum;
    }

    private static void lostOfEachOrder() {
        int[][] all = {{1, 99, 50, 33}, {7, 11, 13, 17, 19, 23, 29, 31}, {99, 98, 97, 96, 95}, {1, 2, 3, 4, 5, 6, 7},
            {31, 29, 23, 19, 17, 13, 11, 7}, {0, 1, 99, 100, 3, 66}};
        for (int[] risks : all) {
            for (int t = 1; t <= 4; t++) {
                Check.same("of the order " + t, ofRisks(t, risks).lost(0), reckoned(t, risks));
            }
        }
    }

    private static void onlyThoseWithSharesAreReckoned() {
        Threeboxes bank = ofRisks(2, 10, 20, 30, 40, 51);
        bank.keeper(0, 1, 100);
        bank.fresh(0, 0b01111);
        Check.same("four, one stale, one without", bank.lost(0), reckoned(2, 10, 20, 30, 40));
        bank.flood(1);
        Check.same("three", bank.lost(0), reckoned(2, 10, 30, 40));
        bank.rebuild(0, 5, 31);
        Check.same("three and one rebuilt", bank.lost(0), reckoned(2, 10, 30, 40, 100));
        bank.flood(0);
        Check.same("two", bank.lost(0), reckoned(2, 30, 40));
        bank.flood(3);
        Check.same("one of the order 2", bank.lost(0), reckoned(2, 30));
    }

    private static Threeboxes ofZonesAndPrices(int[] zones, int[] prices) {
        Threeboxes bank = new Threeboxes();
        for (int k = 0; k < zones.length; k++) {
            bank.keeper(zones[k], prices[k], 0);
        }
        return bank;
    }

    private static void noSetIsLawful() {
        Threeboxes bank = Banks.ofZones(0, 1, 2, 2, 2, 2, 2, 2);
        bank.deal(5, 1, 4, 0, 255);
        Check.same("three zones of four", bank.fewest(0), 0);
        bank.deal(5, 4, 1, 0, 0b10100011);
        Check.same("four, of any zone", bank.fewest(1), 0b10100011);
        bank.flood(0);
        Check.same("three of four", bank.fewest(1), 0);
        bank.deal(5, 1, 1, 0, 128);
        Check.same("one of one", bank.fewest(2), 128);
        bank.flood(2);
        Check.same("nobody", bank.fewest(2), 0);
        Check.same("nor of another", bank.fewest(1), 0);
    }

    private static void fewestHasThresholdAtLeast() {
        for (int t = 1; t <= 4; t++) {
            Threeboxes bank = Banks.ofZones(0, 0, 0, 0, 0, 0, 0, 0);
            bank.deal(5, t, 1, 0, 255);
            Check.same(t + " of one zone", bank.fewest(0), (1 << t) - 1);
        }
    }

    private static void fewestHasTheZones() {
        for (int zones = 1; zones <= 4; zones++) {
            for (int t = 1; t <= 4; t++) {
                Threeboxes bank = Banks.ofZones(0, 0, 1, 1, 2, 2, 3, 3);
                bank.deal(5, t, zones, 0, 255);
                int set = bank.fewest(0);
                int there = Integer.bitCount((set | set >> 1) & 0b01010101);
                Check.same("as many as are needed", there >= zones, true);
                Check.same("how many", Integer.bitCount(set), Math.max(t, zones));
                Check.same("it opens", bank.open(0, set), 5);
            }
        }
    }

    private static void fewestIsTheFewestThenTheCheapestThenTheSmallest() {
        int[] zones = {0, 1, 2, 0, 1, 2, 3, 3};
        Threeboxes bank = ofZonesAndPrices(zones, new int[] {99, 99, 99, 1, 1, 1, 1, 1});
        bank.deal(5, 1, 1, 0, 255);
        Check.same("the smallest of the cheapest", bank.fewest(0), 8);
        bank.deal(5, 2, 2, 0, 255);
        Check.same("two of those", bank.fewest(1), 0b00011000);
        bank.deal(5, 2, 2, 0, 0b00001111);
        Check.same("two are fewer than three, whatever they cost", bank.fewest(2), 0b00001010);
        bank.deal(5, 2, 1, 0, 0b10000111);
        Check.same("one of 99 and one of 1, the smallest set", bank.fewest(3), 0b10000001);
        bank.deal(5, 4, 4, 0, 255);
        Check.same("four of four zones", bank.fewest(4), 0b01111000);
        bank.deal(5, 1, 3, 0, 0b11000111);
        Check.same("three zones", bank.fewest(5), 0b01000011);
        Threeboxes other = ofZonesAndPrices(new int[] {0, 0, 0, 1}, new int[] {2, 3, 1, 9});
        other.deal(5, 2, 1, 0, 15);
        Check.same("1 and 2 are cheaper than 2 and 3", other.fewest(0), 0b0101);
        other.deal(5, 2, 2, 0, 15);
        Check.same("1 and 9 are cheaper than 2 and 9", other.fewest(1), 0b1100);
    }

    private static void neitherDayNorCourtsMatter() {
        Threeboxes bank = Banks.ofZones(0, 1, 2, 3);
        bank.deal(5, 2, 2, 999, 15);
        bank.freeze(0, 0, true);
        bank.freeze(1, 0, true);
        Check.same("fewest", bank.fewest(0), 3);
        Check.same("who could be bought", bank.ofSecret(0, 8), 3);
        Check.same("the group is not LAWFUL now", bank.would(0, 3, 1), 0);
    }
}
