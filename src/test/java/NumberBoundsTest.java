/** The boundaries of "Numbers and lots": 0 to 96 modulo 97, curves of the orders 1 to 4, LUCK modulo 256. */
public final class NumberBoundsTest {
    public static void main(String[] args) {
        luckIs23AtFirst();
        luckIsModulo256();
        whatIsDrawnIsRoundedDown();
        eachNextNumberIsDrawn();
        curvesOfEachOrder();
        sharesAreModulo97();
        freshSharesAreModulo97();
        anyTPointsGiveTheCurve();
        anyTPointsGiveAnyShare();
        Check.end();
    }

    private static void luckIs23AtFirst() {
        Check.same("LUCK of a new bank", new Threeboxes().bank(3), 23);
        Check.same("LUCK without a draw", drawn(0).bank(3), 23);
        Check.same("LUCK after one draw: 1802 modulo 256", drawn(1).bank(3), 10);
    }

    private static int luckAfter(int draws) {
        int luck = 23;
        for (int n = 0; n < draws; n++) {
            luck = luck * 77 + 31;
            while (luck > 255) {
                luck -= 256;
            }
        }
        return luck;
    }

    /** A bank of two keepers in which so many numbers were drawn. */
    private static Threeboxes drawn(int draws) {
        Threeboxes bank = Banks.ofZones(0, 0);
        bank.deal(0, draws == 0 ? 1 : 2, 1, 0, 3);
        for (int n = 1; n < draws; n++) {
            bank.fresh(0, 3);
        }
        return bank;
    }

    private static void luckIsModulo256() {
        int least = 255;
        int most = 0;
        for (int draws = 0; draws <= 260; draws++) {
            int luck = drawn(draws).bank(3);
            Check.same("LUCK after " + draws + " draws", luck, luckAfter(draws));
            least = Math.min(least, luck);
            most = Math.max(most, luck);
        }
        Check.same("the least LUCK", least, 0);
        Check.same("the greatest LUCK", most, 255);
        Check.same("LUCK has gone round after 256 draws", drawn(256).bank(3), 23);
    }

    /** Of the order 2 the share of the keeper 0 grows by just what is drawn. */
    private static void whatIsDrawnIsRoundedDown() {
        int least = 96;
        int most = 0;
        for (int draws = 1; draws <= 256; draws++) {
            Threeboxes bank = drawn(draws);
            int before = bank.share(0, 0, 0);
            bank.fresh(0, 3);
            int number = Math.floorMod(bank.share(0, 0, 0) - before, 97);
            int luck = luckAfter(draws + 1);
            Check.same("drawn by a LUCK of " + luck, number, (int) Math.floor(luck * 97 / 256.0));
            least = Math.min(least, number);
            most = Math.max(most, number);
        }
        Check.same("the least number drawn", least, 0);
        Check.same("the greatest number drawn", most, 96);
    }

    /** "Each next number": none by the order 1, three by the order 4, by a deal and by a freshening. */
    private static void eachNextNumberIsDrawn() {
        for (int t = 1; t <= 4; t++) {
            Threeboxes bank = Banks.ofZones(0, 1, 2, 3);
            bank.deal(96, t, 1, 0, 15);
            Check.same("LUCK after a deal of the order " + t, bank.bank(3), luckAfter(t - 1));
            bank.fresh(0, 15);
            Check.same("LUCK after a freshening of the order " + t, bank.bank(3), luckAfter(2 * t - 2));
        }
    }

    /** What a curve has at x; 3, 12 and 4 are drawn first, then 70, 35 and 38. */
    private static int at(int x, int... numbers) {
        int sum = 0;
        int power = 1;
        for (int number : numbers) {
            sum += number * power;
            power *= x;
        }
        return sum % 97;
    }

    private static int dealt(int t, int value, int x) {
        return t == 1 ? value : t == 2 ? at(x, value, 3) : t == 3 ? at(x, value, 3, 12) : at(x, value, 3, 12, 4);
    }

    private static Threeboxes eight(int value, int t, int set) {
        Threeboxes bank = Banks.ofZones(0, 1, 2, 3, 0, 1, 2, 3);
        bank.deal(value, t, 1, 0, set);
        return bank;
    }

    private static void curvesOfEachOrder() {
        for (int t = 1; t <= 4; t++) {
            Threeboxes bank = eight(50, t, 255);
            for (int k = 0; k < 8; k++) {
                Check.same("the order " + t + " at " + (k + 1), bank.share(0, k, 0), dealt(t, 50, k + 1));
            }
        }
    }

    private static void sharesAreModulo97() {
        boolean[] isSeen = new boolean[97];
        for (int value = 0; value <= 96; value++) {
            for (int t = 1; t <= 4; t++) {
                Threeboxes bank = eight(value, t, 255);
                for (int k = 0; k < 8; k++) {
                    int share = bank.share(0, k, 0);
                    Check.same("of the VALUE " + value + " at " + (k + 1), share, dealt(t, value, k + 1));
                    isSeen[share] = t > 1 || isSeen[share];
                }
            }
        }
        Check.same("shares of 0 and 96 are among these", isSeen[0] && isSeen[96], true);
        Check.same("96 and 3 is 2", eight(96, 2, 255).share(0, 0, 0), 2);
        Check.same("94 and 3 is 0", eight(94, 2, 255).share(0, 0, 0), 0);
        Check.same("93 and 3 is 96", eight(93, 2, 255).share(0, 0, 0), 96);
    }

    private static void freshSharesAreModulo97() {
        for (int value = 0; value <= 96; value++) {
            Threeboxes bank = eight(value, 2, 255);
            bank.fresh(0, 255);
            Threeboxes other = eight(value, 3, 255);
            other.fresh(0, 255);
            for (int k = 0; k < 8; k++) {
                int x = k + 1;
                Check.same("fresh, of the VALUE " + value + " at " + x, bank.share(0, k, 0), at(x, value, 15));
                Check.same("of the order 3", other.share(0, k, 0), at(x, value, 7, 82));
            }
        }
    }

    /** To divide: whichever t of eight open, they find the VALUE. */
    private static void anyTPointsGiveTheCurve() {
        for (int t = 1; t <= 4; t++) {
            for (int value : new int[] {0, 1, 48, 95, 96}) {
                Threeboxes bank = eight(value, t, 255);
                for (int set = 0; set < 256; set++) {
                    if (Integer.bitCount(set) == t) {
                        Check.same("FOUND by " + set + " of the order " + t, bank.would(0, set, 3), value);
                    }
                }
            }
        }
    }

    /** To divide: whichever t of seven rebuild the eighth share, it is what the curve has there. */
    private static void anyTPointsGiveAnyShare() {
        for (int t = 1; t <= 4; t++) {
            for (int k = 0; k < 8; k++) {
                int others = 255 - (1 << k);
                for (int set = 0; set < 256; set++) {
                    if ((set & ~others) == 0 && Integer.bitCount(set) == t) {
                        Threeboxes bank = eight(7, t, others);
                        bank.rebuild(0, k, set);
                        Check.same("rebuilt by " + set, bank.share(0, k, 0), dealt(t, 7, k + 1));
                    }
                }
            }
        }
    }
}
