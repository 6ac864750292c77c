/** Promises 1 to 4: a new object, set, product, family. */
public final class SettingUpTest {
    private static final int[] FIRST = {100, 20, 2, 2, 100, 50, 1, 5, 3};
    private static final int[] LEAST = {0, 0, 0, 1, 0, 0, 0, 0, 0};
    private static final int[] MOST = {1000, 500, 8, 6, 400, 1000, 100, 100, 100};

    public static void main(String[] args) {
        constants();
        newObject();
        objectsAreApart();
        set();
        setLeavesPlans();
        product();
        productOutOfRange();
        family();
        familyLeavesPlans();
        Due.end();
    }

    private static void due(String call, long got, long want) {
        Due.due(call, got, want);
    }

    private static void constants() {
        int[] got = {LotFences.NO_SUCH, LotFences.BAD_VALUE, LotFences.BAD_TEXT, LotFences.TOO_MANY,
            LotFences.NOT_POSSIBLE, LotFences.NONE, LotFences.HOURS, LotFences.OVERTIME, LotFences.FENCE,
            LotFences.LOOK, LotFences.FACTOR, LotFences.SETUP, LotFences.HOLD, LotFences.LATE, LotFences.OVER};
        int[] want = {-1, -2, -3, -4, -5, -6, 0, 1, 2, 3, 4, 5, 6, 7, 8};
        for (int k = 0; k < want.length; k++) {
            due("constant " + k, got[k], want[k]);
        }
    }

    private static void newObject() {
        LotFences x = new LotFences();
        for (int what = 0; what < 10; what++) {
            due("1: count(" + what + ")", x.count(what), 0);
        }
        for (int setting = 0; setting < 9; setting++) {
            due("1: count(" + (10 + setting) + ")", x.count(10 + setting), FIRST[setting]);
        }
        for (int family = 0; family < 4; family++) {
            due("1: count(" + (19 + family) + ")", x.count(19 + family), 5);
        }
        due("1: ofProduct(0, 0)", x.ofProduct(0, 0), -1);
        due("1: ofWeek(0, 0)", x.ofWeek(0, 0), 0);
        due("1: fault()", x.fault(), 0);
        due("1: undo()", x.undo(), -5);
        due("1: restore(0)", x.restore(0), -5);
        due("1: restore(1)", x.restore(1), -5);
        due("1: plan()", x.plan(), 0);
    }

    private static void objectsAreApart() {
        LotFences x = new LotFences();
        LotFences y = new LotFences();
        x.set(0, 7);
        x.family(1, 9);
        x.product(0, 1, 1, 1, 1);
        x.put('p');
        x.save(0);
        due("1: count(10) of another", y.count(10), 100);
        due("1: count(20) of another", y.count(20), 5);
        due("1: count(1) of another", y.count(1), 0);
        due("1: count(8) of another", y.count(8), 0);
        due("1: restore(0) of another", y.restore(0), -5);
        due("1: count(10) of a later one", new LotFences().count(10), 100);
    }

    private static void set() {
        for (int setting = 0; setting < 9; setting++) {
            LotFences x = new LotFences();
            String call = "2: set(" + setting + ", ";
            due(call + "too little)", x.set(setting, LEAST[setting] - 1), -2);
            due(call + "too much)", x.set(setting, MOST[setting] + 1), -2);
            due(call + "least int)", x.set(setting, Integer.MIN_VALUE), -2);
            due(call + "most int)", x.set(setting, Integer.MAX_VALUE), -2);
            due(call + "wrong) is no change", x.count(9), 0);
            due(call + "wrong) sets nothing", x.count(10 + setting), FIRST[setting]);
            due(call + "most)", x.set(setting, MOST[setting]), FIRST[setting]);
            due(call + "least)", x.set(setting, LEAST[setting]), MOST[setting]);
            due(call + "least) again", x.set(setting, LEAST[setting]), LEAST[setting]);
            due(call + "..) is a change", x.count(9), 3);
            for (int other = 0; other < 9; other++) {
                due(call + "..), then count(" + (10 + other) + ")", x.count(10 + other),
                    other == setting ? LEAST[other] : FIRST[other]);
            }
        }
        LotFences x = new LotFences();
        due("2: set(-1, 1)", x.set(-1, 1), -2);
        due("2: set(9, 1)", x.set(9, 1), -2);
        due("2: set(least int, 1)", x.set(Integer.MIN_VALUE, 1), -2);
        due("2: set(most int, 1)", x.set(Integer.MAX_VALUE, 1), -2);
        due("2: wrong sets are no change", x.count(9), 0);
    }

    private static void setLeavesPlans() {
        LotFences x = new LotFences();
        x.product(0, 10, 10, 0, 0);
        x.forecast(0, 3, 50);
        due("2: plan()", x.plan(), 5);
        x.set(0, 0);
        x.set(1, 0);
        x.set(2, 0);
        x.set(3, 6);
        x.set(4, 400);
        due("2: the plan stays", x.at(0, 3, 1), 5);
        due("2: count(5)", x.count(5), 5);
        due("2: overtime follows HOURS", x.ofWeek(3, 2), 55);
        due("2: frozen follows FENCE", x.ofWeek(0, 4), 0);
    }

    private static void product() {
        LotFences x = new LotFences();
        for (int number = 0; number < 10; number++) {
            due("3: product()", x.product(number % 4, number + 1, number + 2, number + 3, number + 4), number);
            due("3: count(1)", x.count(1), number + 1);
        }
        due("3: count(9)", x.count(9), 6);
        due("3: an eleventh", x.product(0, 1, 1, 0, 0), -4);
        due("3: a wrong eleventh", x.product(0, 0, 1, 0, 0), -2);
        due("3: count(1)", x.count(1), 10);
        due("3: undo()", x.undo(), 5);
        due("3: count(1) then", x.count(1), 9);
        due("3: product() then", x.product(3, 99, 49, 19, 9999), 9);
        int[] want = {3, 99, 49, 19, 9999, 0, 0, 0, -6, 0, 0, 0, 9999};
        for (int what = 0; what < want.length; what++) {
            due("3: ofProduct(9, " + what + ")", x.ofProduct(9, what), want[what]);
        }
        for (int week = 0; week < 12; week++) {
            due("3: at(9, .., 0)", x.at(9, week, 0), 0);
            due("3: at(9, .., 1)", x.at(9, week, 1), 0);
        }
        due("3: ofProduct(4, 0)", x.ofProduct(4, 0), 0);
        due("3: ofProduct(4, 1)", x.ofProduct(4, 1), 5);
        due("3: ofProduct(4, 2)", x.ofProduct(4, 2), 6);
        due("3: ofProduct(4, 3)", x.ofProduct(4, 3), 7);
        due("3: ofProduct(4, 4)", x.ofProduct(4, 4), 8);
        numberIsFresh();
    }

    /** A number that is given away once more has nothing left of what it was. */
    private static void numberIsFresh() {
        LotFences x = new LotFences();
        x.save(0);
        x.product(0, 1, 1, 0, 5);
        x.forecast(0, 0, 7);
        x.set(2, 0);
        x.lots(0, 0, 1);
        x.actual(0, 40);
        x.weeks(1);
        x.forecast(0, 0, 7);
        x.lots(0, 1, 2);
        x.actual(0, 3);
        due("3: restore(0)", x.restore(0), 0);
        due("3: count(1)", x.count(1), 0);
        due("3: product() anew", x.product(1, 2, 2, 1, 6), 0);
        int[] want = {1, 2, 2, 1, 6, 0, 0, 0, -6, 0, 0, 0, 6};
        for (int what = 0; what < want.length; what++) {
            due("3: ofProduct(0, " + what + ") anew", x.ofProduct(0, what), want[what]);
        }
        for (int week = 0; week < 12; week++) {
            due("3: at(0, .., 0) anew", x.at(0, week, 0), 0);
            due("3: at(0, .., 1) anew", x.at(0, week, 1), 0);
        }
    }

    private static void productOutOfRange() {
        int[] least = {0, 1, 1, 0, 0};
        int[] most = {3, 100, 50, 20, 10000};
        LotFences x = new LotFences();
        for (int argument = 0; argument < 5; argument++) {
            int[] wrong = {least[argument] - 1, most[argument] + 1, Integer.MIN_VALUE, Integer.MAX_VALUE};
            for (int value : wrong) {
                int[] a = least.clone();
                a[argument] = value;
                due("3: product() with argument " + argument + " = " + value, x.product(a[0], a[1], a[2], a[3], a[4]), -2);
            }
        }
        due("3: wrong products are no change", x.count(9), 0);
        due("3: product() with the least", x.product(0, 1, 1, 0, 0), 0);
        due("3: product() with the most", x.product(3, 100, 50, 20, 10000), 1);
        due("3: products are changes", x.count(9), 2);
    }

    private static void family() {
        LotFences x = new LotFences();
        due("4: family(-1, 51)", x.family(-1, 51), -1);
        due("4: family(4, 5)", x.family(4, 5), -1);
        due("4: family(most int, 5)", x.family(Integer.MAX_VALUE, 5), -1);
        due("4: family(0, -1)", x.family(0, -1), -2);
        due("4: family(3, 51)", x.family(3, 51), -2);
        due("4: family(3, least int)", x.family(3, Integer.MIN_VALUE), -2);
        due("4: wrong ones are no change", x.count(9), 0);
        for (int family = 0; family < 4; family++) {
            due("4: family(.., 50)", x.family(family, 50), 5);
            due("4: family(.., 0)", x.family(family, 0), 50);
            due("4: family(.., its own)", x.family(family, family), 0);
        }
        for (int family = 0; family < 4; family++) {
            due("4: count(" + (19 + family) + ")", x.count(19 + family), family);
        }
        due("4: count(9)", x.count(9), 6);
    }

    private static void familyLeavesPlans() {
        LotFences x = new LotFences();
        x.product(2, 10, 10, 4, 0);
        x.forecast(0, 3, 50);
        due("4: plan()", x.plan(), 5);
        due("4: ofWeek(3, 0)", x.ofWeek(3, 0), 59);
        due("4: family(2, 50)", x.family(2, 50), 5);
        due("4: the plan stays", x.at(0, 3, 1), 5);
        due("4: its hours", x.ofWeek(3, 0), 104);
        x.family(1, 40);
        due("4: of another family", x.ofWeek(3, 0), 104);
        x.set(1, 0);
        due("4: plan() then", x.plan(), 5);
        due("4: at(0, 3, 1), 96 hours at most", x.at(0, 3, 1), 4);
        due("4: at(0, 4, 1), the rest", x.at(0, 4, 1), 1);
    }
}
