import java.lang.reflect.Field;
import java.util.List;

/** Promise 24: isSound. No run of calls makes a bank unsound, so these tests reach into it. */
public final class SoundTest {
    public static void main(String[] args) throws ReflectiveOperationException {
        aBankIsSoundAtAnyTime();
        aShareOffTheCurveIsNotSound();
        staleSharesMayBeOffTheCurve();
        afterARebuildingByLiarsSharesMayBeOffTheCurve();
        justThresholdAreAlwaysOnOneCurve();
        whoIsNotOfTheGroupDoesNotExempt();
        aRefusedRebuildingDoesNotExempt();
        anyLieExempts();
        aShareOfALaterEpochIsNotSound();
        numbersAreZeroTo96();
        aChangedTreeIsNotSound();
        noMoreThan64EntriesAreSound();
        Check.end();
    }

    private static void aBankIsSoundAtAnyTime() {
        Threeboxes bank = Banks.ofFive();
        Check.same("isSound() after a deal", bank.isSound(), true);
        bank.lie(0, 3);
        Check.same("with a liar", bank.isSound(), true);
        bank.fresh(0, 15);
        bank.fresh(0, 7);
        Check.same("with stale shares", bank.isSound(), true);
        bank.rebuild(0, 4, 7);
        Check.same("with a share by liars", bank.isSound(), true);
        bank.rebuild(0, 3, 0b10110);
        Check.same("and another", bank.isSound(), true);
        bank.lie(0, 0);
        Check.same("also when nobody lies any more", bank.isSound(), true);
        bank.fresh(0, 31);
        Check.same("also when it is fresh", bank.isSound(), true);
    }

    private static void aShareOffTheCurveIsNotSound() throws ReflectiveOperationException {
        Threeboxes bank = Banks.ofFive();
        bank.lie(0, 3);
        bank.open(0, 31);
        changeShare(bank, 3, 53);
        Check.same("a share off the curve", bank.isSound(), false);
        changeShare(bank, 3, 52);
        Check.same("a share on the curve", bank.isSound(), true);
        bank.lie(0, 0);
        bank.flood(1);
        bank.rebuild(0, 3, 31);
        changeShare(bank, 3, 53);
        Check.same("a share off the curve, after a rebuilding by nobody who lied", bank.isSound(), false);
    }

    private static void staleSharesMayBeOffTheCurve() throws ReflectiveOperationException {
        Threeboxes bank = Banks.ofFive();
        bank.fresh(0, 15);
        changeShare(bank, 4, 0);
        Check.same("a stale share off the curve", bank.isSound(), true);
        changeShare(bank, 3, 0);
        Check.same("one off the curve that is not stale", bank.isSound(), false);
    }

    private static void afterARebuildingByLiarsSharesMayBeOffTheCurve() throws ReflectiveOperationException {
        Threeboxes bank = Banks.ofFive();
        bank.flood(2);
        bank.lie(4, 9);
        bank.rebuild(0, 4, 15);
        changeShare(bank, 4, 0);
        Check.same("one who lies and is rebuilt, by others who do not", bank.isSound(), false);
        bank.flood(2);
        bank.lie(3, 9);
        bank.rebuild(0, 4, 7);
        changeShare(bank, 4, 0);
        Check.same("one who lies and does not help", bank.isSound(), false);
        bank.flood(2);
        bank.rebuild(0, 4, 0b01101);
        bank.lie(3, 0);
        Check.same("one who lied then, and helped", bank.isSound(), true);
        bank.flood(2);
        Check.same("also when that share is lost", bank.isSound(), true);
        changeShare(bank, 3, 0);
        Check.same("of this secret no curve is asked any more", bank.isSound(), true);
        bank.deal(1, 1, 1, 0, 15);
        changeShare(bank, 1, 3, 50);
        Check.same("of another secret it is", bank.isSound(), false);
    }

    private static void justThresholdAreAlwaysOnOneCurve() throws ReflectiveOperationException {
        for (int t = 1; t <= 4; t++) {
            for (int n = t; n <= 8; n++) {
                Threeboxes bank = Banks.ofZones(0, 1, 2, 3, 0, 1, 2, 3);
                bank.deal(96, t, 1, 0, (1 << n) - 1);
                changeShare(bank, n - 1, (bank.share(0, n - 1, 0) + 1) % 97);
                Check.same(n + " of the order " + t + ", the last one changed", bank.isSound(), n == t);
            }
        }
        Threeboxes bank = Banks.ofFive();
        for (int zone = 0; zone <= 2; zone++) {
            bank.flood(zone);
            Check.same("after a flood of " + zone, bank.isSound(), true);
        }
    }

    private static void whoIsNotOfTheGroupDoesNotExempt() throws ReflectiveOperationException {
        Threeboxes bank = Banks.ofZones(0, 1, 2, 3, 0, 1, 2, 3);
        bank.deal(42, 2, 1, 0, 0b00011111);
        bank.fresh(0, 0b00001111);
        bank.flood(3);
        bank.lie(3, 1);
        bank.lie(4, 1);
        bank.lie(5, 1);
        bank.rebuild(0, 6, 255);
        changeShare(bank, 6, (bank.share(0, 6, 0) + 1) % 97);
        Check.same("who lied has none, a stale one, a lost one", bank.isSound(), false);
    }

    private static void aRefusedRebuildingDoesNotExempt() throws ReflectiveOperationException {
        Threeboxes bank = Banks.ofFive();
        bank.flood(2);
        bank.lie(0, 1);
        Check.noState("four with a liar", bank, () -> bank.rebuild(0, 4, 15));
        Check.noState("it has one", bank, () -> bank.rebuild(0, 1, 0b01101));
        Check.noArgument("no set", bank, () -> bank.rebuild(0, 4, 32));
        changeShare(bank, 3, 53);
        Check.same("after rebuildings that were refused", bank.isSound(), false);
    }

    private static void anyLieExempts() throws ReflectiveOperationException {
        for (int lie : new int[] {0, 1, 48, 95, 96}) {
            for (int who = 0; who < 4; who++) {
                Threeboxes bank = Banks.ofZones(0, 1, 2, 3, 0);
                bank.deal(42, 1, 1, 0, 15);
                bank.lie(who, lie);
                bank.rebuild(0, 4, 15);
                bank.lie(who, 0);
                changeShare(bank, 4, 43);
                Check.same("after a LIE of " + lie + " by " + who, bank.isSound(), lie != 0);
                changeShare(bank, 4, 97);
                Check.same("a share of 97 is not sound for all that", bank.isSound(), false);
                changeShare(bank, 4, -1);
                Check.same("nor one of -1", bank.isSound(), false);
                changeShare(bank, 4, 42);
                epochs(bank)[4] = 1;
                Check.same("nor one of a later epoch", bank.isSound(), false);
            }
        }
    }

    private static void aShareOfALaterEpochIsNotSound() throws ReflectiveOperationException {
        Threeboxes bank = Banks.ofFive();
        bank.fresh(0, 15);
        epochs(bank)[4] = 2;
        Check.same("a share of a later epoch", bank.isSound(), false);
        epochs(bank)[4] = 0;
        Check.same("a share of an earlier epoch", bank.isSound(), true);
    }

    private static void numbersAreZeroTo96() throws ReflectiveOperationException {
        Threeboxes bank = Banks.ofFive();
        bank.fresh(0, 15);
        changeShare(bank, 4, 97);
        Check.same("a share of 97", bank.isSound(), false);
        changeShare(bank, 4, -1);
        Check.same("a share of -1", bank.isSound(), false);
        changeShare(bank, 4, 96);
        Check.same("a share of 96", bank.isSound(), true);
        for (Object one : (List<?>) read(bank, "keeperList")) {
            write(one, "lie", 97);
            Check.same("a lie of 97", bank.isSound(), false);
            write(one, "lie", -1);
            Check.same("a lie of -1", bank.isSound(), false);
            write(one, "lie", 96);
            Check.same("a lie of 96", bank.isSound(), true);
        }
    }

    private static void aChangedTreeIsNotSound() throws ReflectiveOperationException {
        Threeboxes bank = Banks.ofFive();
        bank.flood(3);
        Object register = read(bank, "register");
        for (String row : new String[] {"kinds", "subjects", "days", "tree"}) {
            int[] numbers = (int[]) read(register, row);
            for (int n : row.equals("tree") ? new int[] {1, 3, 33, 64, 65} : new int[] {0, 1}) {
                numbers[n]++;
                Check.same("number " + n + " of the " + row + " changed", bank.isSound(), false);
                numbers[n]--;
                Check.same("changed back", bank.isSound(), true);
            }
        }
        // A leaf in the tree is no part of what digest() adds, but for what isSound() says of it.
        long digest = bank.digest();
        ((int[]) read(register, "tree"))[64]++;
        Check.same("digest() of one that is not sound", bank.digest(), digest - 1);
    }

    private static void noMoreThan64EntriesAreSound() throws ReflectiveOperationException {
        Threeboxes bank = new Threeboxes();
        for (int n = 0; n < 64; n++) {
            bank.flood(0);
        }
        Check.same("64 ENTRIES", bank.isSound(), true);
        write(read(bank, "register"), "count", 65);
        Check.same("65 ENTRIES", bank.isSound(), false);
    }

    private static void changeShare(Threeboxes bank, int keeper, int share) throws ReflectiveOperationException {
        changeShare(bank, 0, keeper, share);
    }

    private static void changeShare(Threeboxes bank, int secret, int keeper, int share)
            throws ReflectiveOperationException {
        Object it = ((List<?>) read(bank, "secretList")).get(secret);
        ((int[]) read(it, "shares"))[keeper] = share;
    }

    private static int[] epochs(Threeboxes bank) throws ReflectiveOperationException {
        return (int[]) read(((List<?>) read(bank, "secretList")).get(0), "epochs");
    }

    private static Field field(Object it, String name) throws ReflectiveOperationException {
        Field field = it.getClass().getDeclaredField(name);
        field.setAccessible(true);
        return field;
    }

    private static Object read(Object it, String name) throws ReflectiveOperationException {
        return field(it, name).get(it);
    }

    private static void write(Object it, String name, int value) throws ReflectiveOperationException {
        field(it, name).setInt(it, value);
    }
}
