/** Promises 19 to 23: would, may, lost, fewest, proves. */
public final class WouldTest {
    public static void main(String[] args) {
        wouldTellsOfGoodGroups();
        wouldTellsOfOthers();
        twoLiarsOfEight();
        wrongWouldsAreRefused();
        mayTells();
        wrongMaysAreRefused();
        lostIsReckoned();
        lostIsNearTheSumOverAllSets();
        fewestTakesTheFewest();
        fewestTakesTheCheapest();
        provesTells();
        nothingIsChanged();
        Check.end();
    }

    private static void checkWould(String when, Threeboxes bank, int set, int... due) {
        for (int what = 0; what <= 5; what++) {
            Check.same(when + ": would(0, " + set + ", " + what + ")", bank.would(0, set, what), due[what]);
        }
    }

    private static void wouldTellsOfGoodGroups() {
        Threeboxes bank = Banks.ofFive();
        checkWould("all", bank, 31, 5, 1, 1, 42, 0, 5);
        checkWould("of one zone less", bank, 0b00111, 3, 1, 1, 42, 0, 3);
        bank.lie(2, 40);
        checkWould("a liar", bank, 31, 5, 1, 1, 42, 4, 4);
        bank.freeze(0, 0, true);
        checkWould("frozen", bank, 31, 5, 0, 1, 42, 4, 4);
        bank.freeze(0, 0, false);
        bank.flood(0);
        // 102 - 97, 52, 66 at 3, 4, 5: at 0 it has 10 a - 15 b + 6 c = 50 - 780 + 396 = -334.
        checkWould("three with a liar", bank, 31, 3, 1, 1, -334 + 388, 0, 3);
    }

    private static void wouldTellsOfOthers() {
        Threeboxes bank = Banks.ofFive();
        checkWould("nobody", bank, 0, 0, 0, 0, -1, 0, 0);
        checkWould("two", bank, 0b00101, 2, 1, 0, -1, 0, 0);
        checkWould("two of one zone", bank, 3, 2, 0, 0, -1, 0, 0);
        bank.lie(2, 40);
        checkWould("four with a liar", bank, 15, 4, 1, 0, -1, 0, 3);
        bank.lie(0, 40);
        Check.same("five with two liars: GOOD", bank.would(0, 31, 2), 0);
        Check.same("five with two liars: agree", bank.would(0, 31, 5), 3);
        bank.fresh(0, 7);
        Check.same("stale ones are not of it", bank.would(0, 31, 0), 3);
        Threeboxes late = Banks.ofZones(0, 1);
        late.deal(5, 1, 2, 10, 3);
        Check.same("ahead of the date", late.would(0, 3, 1), 0);
        late.pass(10);
        Check.same("on the date", late.would(0, 3, 1), 1);
        Check.same("of a zone", late.would(0, 1, 1), 0);
    }

    private static void twoLiarsOfEight() {
        Threeboxes bank = Banks.ofZones(0, 1, 2, 3, 0, 1, 2, 3);
        bank.deal(60, 4, 1, 0, 255);
        bank.lie(1, 3);
        bank.lie(6, 90);
        checkWould("two of eight", bank, 255, 8, 1, 1, 60, 0b01000010, 6);
        Check.same("open", bank.open(0, 255), 60);
        checkWould("two of seven", bank, 127, 7, 1, 0, -1, 0, 5);
        bank.deal(7, 1, 1, 0, 255);
        bank.lie(0, 3);
        Check.same("three of eight, of the order 1: GOOD", bank.would(1, 255, 2), 1);
        Check.same("three of eight, of the order 1: LIARS", bank.would(1, 255, 4), 0b01000011);
        Check.same("four of the eight lie alike", bank.lie(2, 3) + bank.lie(3, 3), 0);
        Check.same("then 10 is given by four", bank.would(1, 255, 5), 4);
        Check.same("which is not GOOD", bank.would(1, 255, 2), 0);
        Check.same("without 4 it is", bank.would(1, 0b10001111, 3), 10);
    }

    private static void wrongWouldsAreRefused() {
        Threeboxes bank = Banks.ofFive();
        Check.noIndex("would(1, 31, 0)", bank, () -> bank.would(1, 31, 0));
        Check.noIndex("would(-1, 31, 0)", bank, () -> bank.would(-1, 31, 0));
        Check.noIndex("would(1, 32, 6)", bank, () -> bank.would(1, 32, 6));
        Check.noArgument("would(0, 32, 0)", bank, () -> bank.would(0, 32, 0));
        Check.noArgument("would(0, -1, 0)", bank, () -> bank.would(0, -1, 0));
        Check.noArgument("would(0, 31, 6)", bank, () -> bank.would(0, 31, 6));
        Check.noArgument("would(0, 31, -1)", bank, () -> bank.would(0, 31, -1));
    }

    private static void mayTells() {
        Threeboxes bank = Banks.ofFive();
        for (int value = 0; value <= 96; value++) {
            Check.same("two of three leave all open: " + value, bank.may(0, 3, value), true);
            Check.same("nobody leaves all open: " + value, bank.may(0, 0, value), true);
            Check.same("three know: " + value, bank.may(0, 7, value), value == 42);
            Check.same("five know: " + value, bank.may(0, 31, value), value == 42);
        }
        bank.lie(0, 1);
        for (int value = 0; value <= 96; value++) {
            // 58, 96, 62: 3 a - 3 b + c is -52.
            Check.same("three with a liar: " + value, bank.may(0, 7, value), value == 45);
            Check.same("four with a liar: " + value, bank.may(0, 15, value), false);
        }
        bank.fresh(0, 0b01110);
        Check.same("a stale one is not of it", bank.may(0, 31, 42), true);
        bank.deal(9, 1, 1, 0, 6);
        Check.same("the order 1", bank.may(1, 2, 9), true);
        Check.same("the order 1, another", bank.may(1, 2, 8), false);
        Check.same("the order 1, nobody", bank.may(1, 1, 8), true);
        bank.lie(1, 5);
        Check.same("the order 1, two that differ", bank.may(1, 6, 9), false);
    }

    private static void wrongMaysAreRefused() {
        Threeboxes bank = Banks.ofFive();
        Check.noIndex("may(1, 31, 0)", bank, () -> bank.may(1, 31, 0));
        Check.noIndex("may(-1, 31, 0)", bank, () -> bank.may(-1, 31, 0));
        Check.noIndex("may(1, 32, 97)", bank, () -> bank.may(1, 32, 97));
        Check.noArgument("may(0, 32, 0)", bank, () -> bank.may(0, 32, 0));
        Check.noArgument("may(0, -1, 0)", bank, () -> bank.may(0, -1, 0));
        Check.noArgument("may(0, 31, 97)", bank, () -> bank.may(0, 31, 97));
        Check.noArgument("may(0, 31, -1)", bank, () -> bank.may(0, 31, -1));
    }

    private static Threeboxes ofRisks(int threshold, int... risks) {
        Threeboxes bank = new Threeboxes();
        for (int risk : risks) {
            bank.keeper(0, 1, risk);
        }
        bank.deal(0, threshold, 1, 0, (1 << risks.length) - 1);
        return bank;
    }

    private static void lostIsReckoned() {
        Check.same("one of 30", ofRisks(1, 30).lost(0), 30 / 100.0);
        Check.same("one of 0", ofRisks(1, 0).lost(0), 0.0);
        Check.same("one of 100", ofRisks(1, 100).lost(0), 1.0);
        double both = (1.0 * 30 / 100.0) * 70 / 100.0;
        double one = (1.0 * 70 / 100.0) * 70 / 100.0 + (1.0 * 30 / 100.0) * 30 / 100.0;
        Check.same("30 and 70, of the order 1", ofRisks(1, 30, 70).lost(0), both);
        Check.same("30 and 70, of the order 2", ofRisks(2, 30, 70).lost(0), both + one);
        Threeboxes bank = ofRisks(2, 30, 70, 7);
        bank.fresh(0, 3);
        Check.same("a stale one does not count", bank.lost(0), both + one);
        bank.flood(0);
        Check.same("without shares", bank.lost(0), 1.0);
        Check.noIndex("lost(1)", bank, () -> bank.lost(1));
        Check.noIndex("lost(-1)", bank, () -> bank.lost(-1));
    }

    private static void lostIsNearTheSumOverAllSets() {
        int[] risks = {3, 50, 99, 17, 64, 20, 1, 88};
        for (int threshold = 1; threshold <= 4; threshold++) {
            double sum = 0.0;
            for (int left = 0; left < 256; left++) {
                double chance = 1.0;
                for (int k = 0; k < 8; k++) {
                    chance *= ((left >> k & 1) == 1 ? 100 - risks[k] : risks[k]) / 100.0;
                }
                sum += Integer.bitCount(left) < threshold ? chance : 0.0;
            }
            double off = ofRisks(threshold, risks).lost(0) - sum;
            Check.same("lost of the order " + threshold, off < 1e-12 && off > -1e-12, true);
        }
    }

    private static void fewestTakesTheFewest() {
        Threeboxes bank = new Threeboxes();
        bank.keeper(0, 1, 0);
        bank.keeper(0, 1, 0);
        bank.keeper(0, 1, 0);
        bank.keeper(1, 99, 0);
        bank.keeper(2, 99, 0);
        bank.deal(0, 2, 1, 0, 31);
        Check.same("two of one zone", bank.fewest(0), 0b00011);
        bank.deal(0, 2, 2, 999, 31);
        bank.freeze(0, 1, true);
        Check.same("two of two zones, whatever day and courts say", bank.fewest(1), 0b01001);
        bank.deal(0, 2, 3, 0, 31);
        Check.same("three, of three zones", bank.fewest(2), 0b11001);
        bank.deal(0, 3, 4, 0, 31);
        Check.same("four zones are not there", bank.fewest(3), 0);
        bank.deal(0, 4, 1, 0, 15);
        Check.same("all of four", bank.fewest(4), 15);
        bank.flood(1);
        Check.same("one is lost", bank.fewest(4), 0);
        bank.fresh(0, 0b00110);
        Check.same("stale ones are not taken", bank.fewest(0), 0b00110);
        Check.noIndex("fewest(5)", bank, () -> bank.fewest(5));
        Check.noIndex("fewest(-1)", bank, () -> bank.fewest(-1));
    }

    private static void fewestTakesTheCheapest() {
        Threeboxes bank = new Threeboxes();
        int[] prices = {9, 5, 7, 7, 3};
        int[] zones = {0, 0, 1, 1, 0};
        for (int k = 0; k < 5; k++) {
            bank.keeper(zones[k], prices[k], 0);
        }
        bank.deal(0, 2, 2, 0, 31);
        Check.same("3 and 7, the smaller set", bank.fewest(0), 0b10100);
        bank.deal(0, 2, 1, 0, 31);
        Check.same("3 and 5", bank.fewest(1), 0b10010);
        bank.deal(0, 1, 1, 0, 0b01100);
        Check.same("of like price the smaller set", bank.fewest(2), 0b00100);
        bank.deal(0, 1, 1, 0, 1);
        Check.same("the first alone", bank.fewest(3), 1);
    }

    private static void provesTells() {
        Threeboxes bank = Banks.ofFive();
        for (int n = 0; n < 20; n++) {
            bank.flood(n % 4);
        }
        for (int e = 0; e <= 20; e++) {
            Check.same("proves(" + e + ", its LEAF)", bank.proves(e, bank.ofEntry(e, 3)), true);
            Check.same("proves(" + e + ", another)", bank.proves(e, bank.ofEntry(e, 3) + 1), false);
        }
        int proved = 0;
        for (int leaf = 0; leaf <= 9972; leaf++) {
            proved += bank.proves(7, leaf) ? 1 : 0;
        }
        Check.same("how many LEAVES are proved", proved, 1);
        Check.noIndex("proves(21, 0)", bank, () -> bank.proves(21, 0));
        Check.noIndex("proves(-1, 0)", bank, () -> bank.proves(-1, 0));
        Check.noIndex("proves(21, 9973)", bank, () -> bank.proves(21, 9973));
        Check.noArgument("proves(0, 9973)", bank, () -> bank.proves(0, 9973));
        Check.noArgument("proves(0, -1)", bank, () -> bank.proves(0, -1));
    }

    private static void nothingIsChanged() {
        Threeboxes bank = Banks.ofFive();
        bank.lie(1, 4);
        String before = State.of(bank);
        for (int set = 0; set < 32; set++) {
            for (int what = 0; what <= 5; what++) {
                bank.would(0, set, what);
            }
            bank.may(0, set, set);
        }
        bank.lost(0);
        bank.fewest(0);
        bank.proves(0, 5);
        Check.same("all after asking", State.of(bank), before);
    }
}
