import java.util.Random;
import java.util.function.Supplier;

/** Runs of calls by lot, each answered by the class and by the model. */
public final class RandomRunsTest {
    private static final int RUNS = 150;
    /** With isSound() at the end these are the 512 calls for which an object is used at most. */
    private static final int CALLS = 511;

    private final Random lot;
    private final Threeboxes bank = new Threeboxes();
    private final Model model = new Model();
    private final int wild;
    private final int liars;

    private RandomRunsTest(long seed) {
        lot = new Random(seed);
        wild = lot.nextInt(12);
        liars = lot.nextInt(60);
    }

    public static void main(String[] args) {
        for (int run = 0; run < RUNS; run++) {
            new RandomRunsTest(run).go("run " + run);
        }
        Check.end();
    }

    private void go(String run) {
        for (int call = 0; call < CALLS; call++) {
            one(run + ", call " + call + ": ");
        }
        Check.same(run + ": isSound()", bank.isSound(), true);
    }

    private boolean isWild() {
        return lot.nextInt(100) < wild;
    }

    /** A number from least to most, now and then one beside. */
    private int from(int least, int most) {
        if (!isWild()) {
            return least + (most < least ? 0 : lot.nextInt(most - least + 1));
        }
        int[] beside = {least - 1, most + 1, least, most, Integer.MIN_VALUE, Integer.MAX_VALUE, lot.nextInt()};
        return beside[lot.nextInt(beside.length)];
    }

    private int set() {
        int all = (1 << model.bank(0)) - 1;
        int some = lot.nextInt(256) & all;
        return isWild() ? from(0, all) : lot.nextInt(3) == 0 ? all : some | lot.nextInt(256) & all;
    }

    private int secret() {
        return from(0, model.bank(1) - 1);
    }

    private int keeper() {
        return from(0, model.bank(0) - 1);
    }

    private int entry() {
        return from(0, model.bank(4) - 1);
    }

    private void one(String at) {
        int which = lot.nextInt(100);
        if (which < 60) {
            doOne(at, which);
        } else {
            askOne(at, which);
        }
    }

    private void doOne(String at, int which) {
        int s = secret();
        int k = keeper();
        int set = set();
        if (which < 6) {
            int zone = from(0, 3);
            int price = from(1, lot.nextBoolean() ? 3 : 99);
            int risk = from(0, 100);
            same(at + "keeper", () -> bank.keeper(zone, price, risk), () -> model.keeper(zone, price, risk));
        } else if (which < 14) {
            int lie = lot.nextInt(100) < liars ? from(0, 96) : 0;
            same(at + "lie", () -> bank.lie(k, lie), () -> model.lie(k, lie));
        } else if (which < 20) {
            int value = from(0, 96);
            int threshold = from(1, 4);
            int zones = from(1, lot.nextBoolean() ? 2 : 4);
            int date = lot.nextBoolean() ? 0 : from(0, 999);
            same(at + "deal", () -> bank.deal(value, threshold, zones, date, set),
                () -> model.deal(value, threshold, zones, date, set));
        } else if (which < 27) {
            same(at + "fresh", () -> bank.fresh(s, set), () -> model.fresh(s, set));
        } else if (which < 29) {
            int zone = from(0, 3);
            same(at + "flood", () -> bank.flood(zone), () -> model.flood(zone));
        } else if (which < 41) {
            same(at + "rebuild", () -> bank.rebuild(s, k, set), () -> model.rebuild(s, k, set));
        } else if (which < 44) {
            int court = from(0, 1);
            boolean is = lot.nextInt(3) == 0;
            same(at + "freeze", () -> bank.freeze(court, s, is), () -> model.freeze(court, s, is));
        } else if (which < 46) {
            int days = from(1, lot.nextInt(10) == 0 ? 365 : 30);
            same(at + "pass", () -> bank.pass(days), () -> model.pass(days));
        } else if (which < 59) {
            same(at + "open", () -> bank.open(s, set), () -> model.open(s, set));
        } else {
            same(at + "knock", bank::knock, model::knock);
        }
    }

    private void askOne(String at, int which) {
        int s = secret();
        int k = keeper();
        int e = entry();
        int set = set();
        if (which < 64) {
            int what = from(0, 6);
            same(at + "ofKeeper", () -> bank.ofKeeper(k, what), () -> model.ofKeeper(k, what));
        } else if (which < 68) {
            int what = from(0, 8);
            same(at + "ofSecret", () -> bank.ofSecret(s, what), () -> model.ofSecret(s, what));
        } else if (which < 72) {
            int what = from(0, 2);
            same(at + "share", () -> bank.share(s, k, what), () -> model.share(s, k, what));
        } else if (which < 76) {
            int what = from(0, 11);
            same(at + "bank", () -> bank.bank(what), () -> model.bank(what));
        } else if (which < 78) {
            int what = from(0, 3);
            same(at + "ofEntry", () -> bank.ofEntry(e, what), () -> model.ofEntry(e, what));
        } else if (which < 80) {
            int row = from(0, 5);
            same(at + "proof", () -> bank.proof(e, row), () -> model.proof(e, row));
        } else if (which < 82) {
            same(at + "row", () -> bank.row(s), () -> model.row(s));
        } else if (which < 88) {
            int what = from(0, 5);
            same(at + "would", () -> bank.would(s, set, what), () -> model.would(s, set, what));
        } else if (which < 92) {
            int value = lot.nextBoolean() || !isSecret(s) || !isSet(set) ? from(0, 96)
                : Math.max(0, model.would(s, set, 3));
            same(at + "may", () -> bank.may(s, set, value), () -> model.may(s, set, value));
        } else if (which < 94) {
            same(at + "lost", () -> bank.lost(s), () -> model.lost(s));
        } else if (which < 97) {
            same(at + "fewest", () -> bank.fewest(s), () -> model.fewest(s));
        } else {
            int leaf = lot.nextBoolean() && e >= 0 && e < model.bank(4) ? model.ofEntry(e, 3) : from(0, 9972);
            same(at + "proves", () -> bank.proves(e, leaf), () -> model.proves(e, leaf));
        }
    }

    private boolean isSecret(int s) {
        return s >= 0 && s < model.bank(1);
    }

    private boolean isSet(int set) {
        return set >= 0 && set < 1 << model.bank(0);
    }

    private static void same(String call, Supplier<Object> got, Supplier<Object> due) {
        Check.same(call, answer(got), wanted(due));
    }

    private static String answer(Supplier<Object> call) {
        try {
            return String.valueOf(call.get());
        } catch (RuntimeException e) {
            return "throws " + Check.nameOf(e);
        }
    }

    private static String wanted(Supplier<Object> call) {
        try {
            return String.valueOf(call.get());
        } catch (Model.Refusal e) {
            return "throws " + e.due.getName();
        }
    }
}
