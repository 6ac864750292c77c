/** The promises 1 to 4: a new object, set, product, family. */
final class SettingUpSentences extends Sentences {
    private static final int[] LEAST = {0, 0, 0, 1, 0, 0, 0, 0, 0};
    private static final int[] MOST = {1000, 500, 8, 6, 400, 1000, 100, 100, 100};
    private static final int[] FIRST = {100, 20, 2, 2, 100, 50, 1, 5, 3};
    private static final int[] LEAST_ARGUMENTS = {0, 1, 1, 0, 0};
    private static final int[] MOST_ARGUMENTS = {3, 100, 50, 20, 10000};

    static void all() {
        newObject();
        setChanges();
        setLeavesPlans();
        setIsAChange();
        setReturns();
        noSuchSetting();
        settingOutOfRange();
        productAdds();
        productIsAChange();
        productArguments();
        productReturns();
        argumentOutOfRange();
        tooManyProducts();
        familyChanges();
        familyLeavesPlans();
        familyIsAChange();
        familyHours();
        familyReturns();
        noSuchFamily();
        familyOutOfRange();
    }

    private static void newObject() {
        sentence(1, "Creates a works without products.");
        LotFences x = new LotFences();
        for (int what = 0; what <= 9; what++) {
            due("count(" + what + ")", x.count(what), 0);
        }
        for (int setting = 0; setting < 9; setting++) {
            due("count(" + (10 + setting) + ")", x.count(10 + setting), FIRST[setting]);
        }
        for (int week = 0; week < 12; week++) {
            due("ofWeek(" + week + ", 0)", x.ofWeek(week, 0), 0);
            due("ofWeek(" + week + ", 4)", x.ofWeek(week, 4), week < 2 ? 1 : 0);
        }
        due("ofProduct(0, 0)", x.ofProduct(0, 0), NO_SUCH);
        due("forecast(0, 0, 0)", x.forecast(0, 0, 0), NO_SUCH);
        due("undo()", x.undo(), NOT_POSSIBLE);
        due("restore(0)", x.restore(0), NOT_POSSIBLE);
        due("restore(1)", x.restore(1), NOT_POSSIBLE);
        due("fault()", x.fault(), 0);
        due("leastHours()", x.leastHours(), 0);
        due("costs(0, 12)", x.costs(0, 12), 0);
        due("bestFence(12)", x.bestFence(12), 8);
        due("plan()", x.plan(), 0);
        due("weeks(1)", x.weeks(1), 1);
        LotFences y = new LotFences();
        due("weeks of another object", y.count(0), 0);
        y.product(0, 1, 1, 0, 0);
        due("products of the first one", x.count(1), 0);
    }

    private static void setChanges() {
        sentence(2, "Changes a setting;");
        for (int setting = 0; setting < 9; setting++) {
            LotFences x = new LotFences();
            x.set(setting, MOST[setting]);
            for (int other = 0; other < 9; other++) {
                due("count(" + (10 + other) + ") behind set(" + setting + ", ..)", x.count(10 + other),
                    other == setting ? MOST[other] : FIRST[other]);
            }
            x.set(setting, LEAST[setting]);
            due("count(" + (10 + setting) + ") at the least", x.count(10 + setting), LEAST[setting]);
        }
    }

    private static void setLeavesPlans() {
        sentence(2, "plans stay as they are.");
        LotFences x = one(10, 10, 0, 0);
        x.forecast(0, 3, 50);
        x.plan();
        for (int setting = 0; setting < 9; setting++) {
            x.set(setting, LEAST[setting]);
            due("at(0, 3, 1), the least setting " + setting, x.at(0, 3, LOTS), 5);
            due("lots in all plans", x.count(5), 5);
            x.set(setting, MOST[setting]);
            due("at(0, 3, 1), the greatest setting " + setting, x.at(0, 3, LOTS), 5);
            due("lots in all plans", x.count(5), 5);
        }
        x.set(HOURS, 0);
        due("overtime follows the setting", x.ofWeek(3, 2), 55);
    }

    private static void setIsAChange() {
        sentence(2, "This is a change.");
        for (int setting = 0; setting < 9; setting++) {
            LotFences x = new LotFences();
            x.set(setting, MOST[setting]);
            due("changes", x.count(9), 1);
            x.set(setting, MOST[setting]);
            due("changes, with the value that it had", x.count(9), 2);
            due("undo()", x.undo(), 1);
            due("count() then", x.count(10 + setting), MOST[setting]);
            due("undo()", x.undo(), 0);
            due("count() then", x.count(10 + setting), FIRST[setting]);
        }
    }

    private static void setReturns() {
        sentence(2, "Returns the previous value;");
        for (int setting = 0; setting < 9; setting++) {
            LotFences x = new LotFences();
            due("set() to the most", x.set(setting, MOST[setting]), FIRST[setting]);
            due("set() to the most again", x.set(setting, MOST[setting]), MOST[setting]);
            due("set() to the least", x.set(setting, LEAST[setting]), MOST[setting]);
            due("set() to the first", x.set(setting, FIRST[setting]), LEAST[setting]);
        }
    }

    private static void noSuchSetting() {
        sentence(2, "BAD_VALUE if there is no such setting,");
        LotFences x = new LotFences();
        for (int setting : new int[] {-1, 9, 10, 19, LEAST_INT, MOST_INT}) {
            due("set(" + setting + ", 1)", x.set(setting, 1), BAD_VALUE);
        }
        due("set(8, 1)", x.set(8, 1), 3);
        due("set(0, 1)", x.set(0, 1), 100);
    }

    private static void settingOutOfRange() {
        sentence(2, "or the value is out of its range.");
        LotFences x = new LotFences();
        for (int setting = 0; setting < 9; setting++) {
            for (int value : new int[] {LEAST[setting] - 1, MOST[setting] + 1, LEAST_INT, MOST_INT}) {
                due("set(" + setting + ", " + value + ")", x.set(setting, value), BAD_VALUE);
            }
            due("count(" + (10 + setting) + ")", x.count(10 + setting), FIRST[setting]);
        }
        due("changes", x.count(9), 0);
    }

    private static void productAdds() {
        sentence(3, "Adds a product.");
        LotFences x = new LotFences();
        x.product(3, 100, 50, 20, 10000);
        x.product(0, 1, 1, 0, 0);
        due("products", x.count(1), 2);
        int[] most = {3, 100, 50, 20, 10000, 0, 0, 0, NONE, 0, 0, 0, 10000};
        int[] least = {0, 1, 1, 0, 0, 0, 0, 0, NONE, 0, 0, 0, 0};
        for (int what = 0; what <= 12; what++) {
            due("ofProduct(0, " + what + ")", x.ofProduct(0, what), most[what]);
            due("ofProduct(1, " + what + ")", x.ofProduct(1, what), least[what]);
        }
        dueRow(x, 0, FORECAST, 0, 0, 0, 0, 0, 0, 0, 0, 0, 0, 0, 0);
        dueRow(x, 0, LOTS, 0, 0, 0, 0, 0, 0, 0, 0, 0, 0, 0, 0);
        due("nothing is planned", x.count(5), 0);
        LotFences y = takenBack();
        y.product(0, 1, 1, 0, 0);
        for (int what = 0; what <= 12; what++) {
            due("ofProduct(0, " + what + ") of a number that had another product", y.ofProduct(0, what), least[what]);
        }
    }

    private static void productIsAChange() {
        sentence(3, "This is a change.");
        LotFences x = one(1, 1, 0, 9);
        due("changes", x.count(9), 1);
        x.forecast(0, 4, 8);
        x.actual(0, 3);
        x.undo();
        x.undo();
        due("undo()", x.undo(), 0);
        due("products then", x.count(1), 0);
        due("product() anew", x.product(1, 2, 3, 4, 5), 0);
        due("it has nothing of the other one: told", x.ofProduct(0, TOLD), NONE);
        due("forecast", x.at(0, 4, FORECAST), 0);
        due("stock", x.ofProduct(0, STOCK), 5);
    }

    private static int product(LotFences x, int argument, int value) {
        int[] a = {1, 2, 3, 4, 5};
        a[argument] = value;
        return x.product(a[0], a[1], a[2], a[3], a[4]);
    }

    private static void productArguments() {
        String[] words = {"family: 0 to 3", "lotSize: 1 to 100", "lotHours: 1 to 50", "setupHours: 0 to 20",
            "stock: 0 to 10000"};
        for (int argument = 0; argument < 5; argument++) {
            sentence(3, words[argument]);
            LotFences x = new LotFences();
            due("one less", product(x, argument, LEAST_ARGUMENTS[argument] - 1), BAD_VALUE);
            due("one more", product(x, argument, MOST_ARGUMENTS[argument] + 1), BAD_VALUE);
            due("the least", product(x, argument, LEAST_ARGUMENTS[argument]), 0);
            due("the most", product(x, argument, MOST_ARGUMENTS[argument]), 1);
            due("ofProduct() of the least", x.ofProduct(0, argument), LEAST_ARGUMENTS[argument]);
            due("ofProduct() of the most", x.ofProduct(1, argument), MOST_ARGUMENTS[argument]);
        }
    }

    private static void productReturns() {
        sentence(3, "Returns its number;");
        LotFences x = new LotFences();
        for (int number = 0; number < 10; number++) {
            due("product()", x.product(0, 1, 1, 0, number), number);
        }
        x.undo();
        x.undo();
        due("product() behind two that were undone", x.product(0, 1, 1, 0, 0), 8);
    }

    private static void argumentOutOfRange() {
        sentence(3, "BAD_VALUE if an argument is out of range;");
        LotFences x = new LotFences();
        for (int argument = 0; argument < 5; argument++) {
            int[] values = {LEAST_ARGUMENTS[argument] - 1, MOST_ARGUMENTS[argument] + 1, LEAST_INT, MOST_INT};
            for (int value : values) {
                due("product() with " + value + " at " + argument, product(x, argument, value), BAD_VALUE);
            }
        }
        due("products", x.count(1), 0);
        due("changes", x.count(9), 0);
        LotFences full = ten();
        due("an eleventh one out of range", product(full, 4, 10001), BAD_VALUE);
    }

    private static void tooManyProducts() {
        sentence(3, "TOO_MANY if there are 10 products.");
        LotFences x = ten();
        due("an eleventh", x.product(0, 1, 1, 0, 0), TOO_MANY);
        due("products", x.count(1), 10);
        due("undo()", x.undo(), 5);
        due("a tenth again", x.product(2, 1, 1, 0, 7), 9);
        due("an eleventh again", x.product(0, 1, 1, 0, 0), TOO_MANY);
        due("stock of the tenth", x.ofProduct(9, STOCK), 7);
    }

    private static void familyChanges() {
        sentence(4, "Changes the hours for a setup of a family;");
        LotFences x = new LotFences();
        for (int family = 0; family < 4; family++) {
            x.family(family, 10 * family);
        }
        for (int family = 0; family < 4; family++) {
            due("count(" + (19 + family) + ")", x.count(19 + family), 10 * family);
        }
        x.product(3, 1, 1, 0, 0);
        x.lots(0, 5, 2);
        due("hours with the family 3", x.ofWeek(5, 0), 32);
        x.family(3, 50);
        due("hours with 50", x.ofWeek(5, 0), 52);
        x.family(2, 50);
        due("hours with 50 of another family", x.ofWeek(5, 0), 52);
    }

    private static void familyLeavesPlans() {
        sentence(4, "plans stay as they are.");
        LotFences x = one(1, 10, 0, 0);
        x.forecast(0, 3, 11);
        due("plan()", x.plan(), 11);
        x.family(0, 50);
        due("at(0, 3, 1), above the hours", x.at(0, 3, LOTS), 11);
        due("its hours", x.ofWeek(3, 0), 160);
        x.family(0, 0);
        due("at(0, 3, 1), below the hours", x.at(0, 3, LOTS), 11);
        due("count(5)", x.count(5), 11);
    }

    private static void familyIsAChange() {
        sentence(4, "This is a change.");
        LotFences x = new LotFences();
        x.family(2, 0);
        x.family(2, 0);
        due("changes", x.count(9), 2);
        due("undo()", x.undo(), 1);
        due("count(21)", x.count(21), 0);
        due("undo()", x.undo(), 0);
        due("count(21)", x.count(21), 5);
    }

    private static void familyHours() {
        sentence(4, "hours: 0 to 50");
        LotFences x = new LotFences();
        for (int family = 0; family < 4; family++) {
            due("family(" + family + ", -1)", x.family(family, -1), BAD_VALUE);
            due("family(" + family + ", 0)", x.family(family, 0), 5);
            due("family(" + family + ", 51)", x.family(family, 51), BAD_VALUE);
            due("family(" + family + ", 50)", x.family(family, 50), 0);
            due("count(" + (19 + family) + ")", x.count(19 + family), 50);
        }
    }

    private static void familyReturns() {
        sentence(4, "Returns the previous hours;");
        LotFences x = new LotFences();
        due("family(0, 7)", x.family(0, 7), 5);
        due("family(0, 7) again", x.family(0, 7), 7);
        due("family(3, 8)", x.family(3, 8), 5);
        due("family(0, 0)", x.family(0, 0), 7);
        due("family(3, 0)", x.family(3, 0), 8);
    }

    private static void noSuchFamily() {
        sentence(4, "NO_SUCH if there is no such family;");
        LotFences x = new LotFences();
        for (int family : new int[] {-1, 4, LEAST_INT, MOST_INT}) {
            due("family(" + family + ", 5)", x.family(family, 5), NO_SUCH);
            due("family(" + family + ", 51)", x.family(family, 51), NO_SUCH);
        }
        due("family(3, 5)", x.family(3, 5), 5);
        due("family(0, 5)", x.family(0, 5), 5);
        due("changes", x.count(9), 2);
    }

    private static void familyOutOfRange() {
        sentence(4, "BAD_VALUE if hours is out of range.");
        LotFences x = new LotFences();
        for (int hours : new int[] {-1, 51, LEAST_INT, MOST_INT}) {
            due("family(1, " + hours + ")", x.family(1, hours), BAD_VALUE);
        }
        due("count(20)", x.count(20), 5);
        due("changes", x.count(9), 0);
    }
}
