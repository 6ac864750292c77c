/** The conventions, the settings, weeks and products, and the projection: the first sections of the Terms. */
final class TermSentences extends Sentences {
    private static final int[] LEAST = {0, 0, 0, 1, 0, 0, 0, 0, 0};
    private static final int[] MOST = {1000, 500, 8, 6, 400, 1000, 100, 100, 100};
    private static final int[] FIRST = {100, 20, 2, 2, 100, 50, 1, 5, 3};

    private interface Call {
        long on(LotFences x);
    }

    static void all() {
        errorCodes();
        firstErrorIsReturned();
        errorsChangeNothing();
        noneIsNoError();
        roundedDown();
        numberedFromZero();
        settings();
        twelveWeeks();
        tenProducts();
        arguments();
        stockAtFirst();
        forecastsAtFirst();
        plansAtFirst();
        familiesAtFirst();
        hours();
        setups();
        overtime();
        cover();
        projection();
        projectionIsAsForecast();
        projectionBelowZero();
    }

    private static void errorCodes() {
        sentence("2 to 27", "Terms", "A method that fails returns one of the error codes NO_SUCH (-1), BAD_VALUE "
            + "(-2), BAD_TEXT (-3), TOO_MANY (-4) and NOT_POSSIBLE (-5);");
        LotFences x = new LotFences();
        due("firstShort(0) without products", x.firstShort(0), -1);
        due("weeks(0)", x.weeks(0), -2);
        due("carryOut() of an empty pad", x.carryOut(), -3);
        for (int k = 0; k < 10; k++) {
            x.put(0x703b703b703b703bL);
        }
        due("put() on a full pad", x.put('p'), -4);
        due("undo() of nothing", x.undo(), -5);
        noBoundary("Terms", "CONVENTIONS.");
    }

    private static void firstErrorIsReturned() {
        sentence("2 to 27", "Terms", "it names its errors in the order in which they are checked, and the first "
            + "one that applies is returned.");
        LotFences x = ten();
        due("an eleventh product() of family 4", x.product(4, 1, 1, 0, 0), BAD_VALUE);
        due("family(4, 51)", x.family(4, 51), NO_SUCH);
        due("forecast(10, 0, 1001)", x.forecast(10, 0, 1001), NO_SUCH);
        due("forecast(0, 12, 1001)", x.forecast(0, 12, 1001), NO_SUCH);
        due("actual(10, 2001)", x.actual(10, 2001), NO_SUCH);
        due("lots(10, 0, 1001)", x.lots(10, 0, 1001), NO_SUCH);
        due("lots(0, 12, 1001)", x.lots(0, 12, 1001), NO_SUCH);
        due("lots(10, 0, 1), frozen", x.lots(10, 0, 1), NO_SUCH);
        due("lots(0, -1, 1), ahead of the fence", x.lots(0, -1, 1), NO_SUCH);
        due("lots(0, 0, 1001), frozen", x.lots(0, 0, 1001), BAD_VALUE);
        due("lots(0, 0, -1), frozen", x.lots(0, 0, -1), BAD_VALUE);
        due("ofProduct(10, 13)", x.ofProduct(10, 13), NO_SUCH);
        due("at(10, 0, 2)", x.at(10, 0, 2), NO_SUCH);
        due("at(0, 12, 2)", x.at(0, 12, 2), NO_SUCH);
        due("ofWeek(12, 5)", x.ofWeek(12, 5), NO_SUCH);
        due("restore(2), nothing is saved", x.restore(2), BAD_VALUE);
        for (int k = 0; k < 10; k++) {
            x.put(0x703b703b703b703bL);
        }
        due("put(32) on a full pad", x.put(32), BAD_VALUE);
    }

    private static LotFences filled() {
        LotFences x = new LotFences();
        x.product(0, 10, 4, 2, 50);
        x.product(2, 3, 1, 1, 7);
        x.forecast(0, 3, 70);
        x.plan();
        x.save(0);
        x.actual(0, 12);
        x.weeks(1);
        x.actual(1, 5);
        x.put(0x703bL);
        return x;
    }

    private static void refused(String name, long want, Call call) {
        LotFences x = filled();
        String before = Seen.whole(x);
        due(name, call.on(x), want);
        same("what is seen behind " + name, Seen.whole(x), before);
        due("the slot behind " + name, x.restore(0), 0);
        due("undo() of it", x.undo(), 5);
        due("undo() of what was ahead of " + name, x.undo(), 4);
        due("told then", x.ofProduct(1, TOLD), NONE);
    }

    private static void errorsChangeNothing() {
        sentence("2 to 27", "Terms", "A call that returns an error changes nothing.");
        refused("set(9, 0)", BAD_VALUE, x -> x.set(9, 0));
        refused("set(0, 1001)", BAD_VALUE, x -> x.set(0, 1001));
        refused("product() of family 4", BAD_VALUE, x -> x.product(4, 1, 1, 0, 0));
        refused("family(4, 0)", NO_SUCH, x -> x.family(4, 0));
        refused("family(0, 51)", BAD_VALUE, x -> x.family(0, 51));
        refused("forecast(2, 0, 9)", NO_SUCH, x -> x.forecast(2, 0, 9));
        refused("forecast(0, 12, 9)", NO_SUCH, x -> x.forecast(0, 12, 9));
        refused("forecast(0, 0, 1001)", BAD_VALUE, x -> x.forecast(0, 0, 1001));
        refused("actual(2, 9)", NO_SUCH, x -> x.actual(2, 9));
        refused("actual(0, 2001)", BAD_VALUE, x -> x.actual(0, 2001));
        refused("lots(2, 5, 1)", NO_SUCH, x -> x.lots(2, 5, 1));
        refused("lots(0, 12, 1)", NO_SUCH, x -> x.lots(0, 12, 1));
        refused("lots(0, 5, 1001)", BAD_VALUE, x -> x.lots(0, 5, 1001));
        refused("lots(0, 1, 1)", NOT_POSSIBLE, x -> x.lots(0, 1, 1));
        refused("lots(0, 5, 1000)", NOT_POSSIBLE, x -> x.lots(0, 5, 1000));
        refused("weeks(0)", BAD_VALUE, x -> x.weeks(0));
        refused("weeks(31)", BAD_VALUE, x -> x.weeks(31));
        refused("ofProduct(2, 0)", NO_SUCH, x -> x.ofProduct(2, 0));
        refused("ofProduct(0, 13)", BAD_VALUE, x -> x.ofProduct(0, 13));
        refused("at(0, 12, 0)", NO_SUCH, x -> x.at(0, 12, 0));
        refused("at(0, 0, 2)", BAD_VALUE, x -> x.at(0, 0, 2));
        refused("projection(0, 12)", NO_SUCH, x -> x.projection(0, 12));
        refused("ofWeek(12, 0)", NO_SUCH, x -> x.ofWeek(12, 0));
        refused("ofWeek(0, 5)", BAD_VALUE, x -> x.ofWeek(0, 5));
        refused("count(23)", BAD_VALUE, x -> x.count(23));
        refused("firstShort(2)", NO_SUCH, x -> x.firstShort(2));
        refused("lasts(2)", NO_SUCH, x -> x.lasts(2));
        refused("costs(9, 1)", BAD_VALUE, x -> x.costs(9, 1));
        refused("costs(0, 13)", BAD_VALUE, x -> x.costs(0, 13));
        refused("bestFence(13)", BAD_VALUE, x -> x.bestFence(13));
        refused("roomFor(2, 0)", NO_SUCH, x -> x.roomFor(2, 0));
        refused("roomFor(0, 12)", NO_SUCH, x -> x.roomFor(0, 12));
        refused("put(0)", BAD_VALUE, x -> x.put(0));
        refused("put() of a blank between others", BAD_VALUE, x -> x.put(0x702070L));
        refused("carryOut()", BAD_TEXT, x -> x.carryOut());
        refused("save(2)", BAD_VALUE, x -> x.save(2));
        refused("restore(2)", BAD_VALUE, x -> x.restore(2));
        refused("restore(1)", NOT_POSSIBLE, x -> x.restore(1));
        fullOrEmptyChangesNothing();
    }

    private static void fullOrEmptyChangesNothing() {
        LotFences x = ten();
        due("an eleventh product()", x.product(3, 9, 9, 9, 9), TOO_MANY);
        due("products then", x.count(1), 10);
        due("changes then", x.count(9), 6);
        due("stock of the last one then", x.ofProduct(9, STOCK), 900);
        LotFences y = new LotFences();
        for (int k = 0; k < 9; k++) {
            y.put(0x703b703b703b703bL);
        }
        y.put(0x703b703b703b70L);
        due("81 characters", y.put(0x3b70L), TOO_MANY);
        due("length then", y.count(8), 79);
        due("fault then", y.fault(), NONE);
        LotFences z = new LotFences();
        String before = Seen.whole(z);
        due("undo() of nothing", z.undo(), NOT_POSSIBLE);
        same("what is seen behind it", Seen.whole(z), before);
    }

    private static void noneIsNoError() {
        sentence("6, 10, 15, 17, 23, 24", "Terms", "NONE (-6) is not an error; it is returned only if no error "
            + "applies.");
        LotFences x = one(1, 1, 0, 5);
        due("actual() that answers NONE", x.actual(0, 4), NONE);
        due("it is carried out", x.ofProduct(0, TOLD), 4);
        due("it is a change", x.count(9), 2);
        x.undo();
        Due.put(x, "a0*3;f0@0*2");
        due("acts of a text, the first one answers NONE", x.carryOut(), 2);
        due("firstShort() of no product", x.firstShort(1), NO_SUCH);
        due("actual() of no product", x.actual(1, NONE), NO_SUCH);
        due("ofProduct() of no product, told", x.ofProduct(1, TOLD), NO_SUCH);
        due("actual() of NONE, 3 were told", x.actual(0, NONE), 3);
    }

    private static void roundedDown() {
        sentence("7, 8, 10, 20", "Terms", "Divisions are rounded down, unless \"rounded up\" is written.");
        LotFences x = one(1, 10, 3, 1000);
        x.actual(0, 80);
        x.weeks(1);
        x.set(FACTOR, 219);
        due("10 * 219 / 100", x.ofProduct(0, COVER), 21);
        x.set(FACTOR, 9);
        due("10 * 9 / 100", x.ofProduct(0, COVER), 0);
        due("(120 - 5 - 3) / 10 lots of room", x.roomFor(0, 5), 11);
        x.forecast(0, 2, 1000);
        x.plan();
        due("as many lots are planned", x.at(0, 2, LOTS), 11);
    }

    private static void numberedFromZero() {
        sentence("3, 5, 10", "Terms", "Everything is numbered from 0, in the order in which it was made.");
        LotFences x = new LotFences();
        for (int product = 0; product < 10; product++) {
            due("product()", x.product(3, 1, 1, 0, 70 + product), product);
        }
        for (int product = 0; product < 10; product++) {
            due("stock of " + product, x.ofProduct(product, STOCK), 70 + product);
        }
        due("forecast(0, 0, 5)", x.forecast(0, 0, 5), 0);
        due("forecast(0, 0, 6)", x.forecast(0, 0, 6), 5);
        due("family(0, 6)", x.family(0, 6), 5);
        due("save(0)", x.save(0), 0);
    }

    private static void setting(int setting, String words) {
        sentence("2", "Settings", words);
        LotFences x = new LotFences();
        due("count(" + (10 + setting) + ")", x.count(10 + setting), FIRST[setting]);
        String call = "set(" + setting + ", ";
        due(call + (LEAST[setting] - 1) + ")", x.set(setting, LEAST[setting] - 1), BAD_VALUE);
        due(call + (MOST[setting] + 1) + ")", x.set(setting, MOST[setting] + 1), BAD_VALUE);
        due(call + LEAST[setting] + ")", x.set(setting, LEAST[setting]), FIRST[setting]);
        due(call + MOST[setting] + ")", x.set(setting, MOST[setting]), LEAST[setting]);
        due("count(" + (10 + setting) + ") then", x.count(10 + setting), MOST[setting]);
    }

    private static void settings() {
        noBoundary("Settings", "(In parentheses: range; first value.)");
        setting(HOURS, "HOURS (0 to 1000; 100) and");
        setting(OVERTIME, "OVERTIME (0 to 500; 20), for a week.");
        setting(FENCE, "FENCE (0 to 8; 2) and");
        setting(LOOK, "LOOK (1 to 6; 2), in weeks.");
        setting(FACTOR, "FACTOR (0 to 400; 100), in percent.");
        setting(SETUP, "SETUP (0 to 1000; 50) for a setup,");
        costOfAWeek(SETUP, 1000, 2 * 1000);
        setting(HOLD, "HOLD (0 to 100; 1) for a unit in stock,");
        costOfAWeek(HOLD, 100, 7 * 100);
        setting(LATE, "LATE (0 to 100; 5) for a unit of backlog,");
        costOfAWeek(LATE, 100, 9 * 100);
        setting(OVER, "OVER (0 to 100; 3) for an hour of overtime.");
        costOfAWeek(OVER, 100, 15 * 100);
        noBoundary("Settings", "Costs:");
        noBoundary("Settings", "Weeks, products");
    }

    /** A week with 2 setups, 15 hours of overtime, 7 units in stock and 9 of backlog: nothing else costs anything. */
    private static void costOfAWeek(int setting, int cost, int want) {
        LotFences x = new LotFences();
        x.set(FENCE, 0);
        for (int other = SETUP; other <= OVER; other++) {
            x.set(other, other == setting ? cost : 0);
        }
        x.product(0, 4, 10, 5, 0);
        x.product(1, 1, 1, 0, 7);
        x.lots(0, 0, 10);
        x.set(HOURS, 95);
        x.actual(0, 49);
        due("hours of overtime", x.ofWeek(0, 2), 15);
        x.weeks(1);
        due("costs at " + cost, x.count(4), want);
    }

    private static void twelveWeeks() {
        sentence("5, 9, 11, 13", "Settings", "Twelve weeks are looked at: the week 0 is the present one, the week "
            + "11 the last one.");
        LotFences x = one(1, 1, 0, 9);
        due("forecast(0, -1, 1)", x.forecast(0, -1, 1), NO_SUCH);
        due("forecast(0, 12, 1)", x.forecast(0, 12, 1), NO_SUCH);
        due("forecast(0, 11, 1)", x.forecast(0, 11, 1), 0);
        due("forecast(0, 0, 2)", x.forecast(0, 0, 2), 0);
        due("ofWeek(11, 0)", x.ofWeek(11, 0), 0);
        due("ofWeek(12, 0)", x.ofWeek(12, 0), NO_SUCH);
        x.weeks(1);
        due("what came in the present week", x.ofProduct(0, CAME), 2);
        x.weeks(10);
        due("what came before the last week", x.ofProduct(0, CAME), 2);
        x.weeks(1);
        due("what came in the last week", x.ofProduct(0, CAME), 3);
    }

    private static void tenProducts() {
        sentence("3", "Settings", "There are up to 10 products.");
        LotFences y = ten();
        due("count(1)", y.count(1), 10);
        due("an eleventh", y.product(0, 1, 1, 0, 0), TOO_MANY);
        due("lots(9, 11, 1) of the tenth", y.lots(9, 11, 1), 0);
        due("forecast(9, 11, 1000) of the tenth", y.forecast(9, 11, 1000), 0);
        due("plan() with all ten", y.plan(), 100);
        due("forecast(10, 0, 0) of an eleventh", y.forecast(10, 0, 0), NO_SUCH);
    }

    private static void arguments() {
        argument("A product has a family (0 to 3),", 0, 0, 3);
        argument("a lot size (1 to 100 units),", 1, 1, 100);
        argument("hours for a lot (1 to 50),", 2, 1, 50);
        argument("hours for a setup (0 to 20),", 3, 0, 20);
    }

    private static void argument(String words, int argument, int least, int most) {
        sentence("3, 10", "Settings", words);
        LotFences x = new LotFences();
        due("product() with " + (least - 1), product(x, argument, least - 1), BAD_VALUE);
        due("product() with " + (most + 1), product(x, argument, most + 1), BAD_VALUE);
        due("product() with " + least, product(x, argument, least), 0);
        due("product() with " + most, product(x, argument, most), 1);
        due("the least", x.ofProduct(0, argument), least);
        due("the most", x.ofProduct(1, argument), most);
    }

    private static int product(LotFences x, int argument, int value) {
        int[] a = {1, 2, 3, 4, 5};
        a[argument] = value;
        return x.product(a[0], a[1], a[2], a[3], a[4]);
    }

    private static void stockAtFirst() {
        sentence("3, 10", "Settings", "stock, backlog, an error (all 0 at first; stock as it is told),");
        LotFences x = new LotFences();
        x.product(1, 2, 3, 4, 0);
        x.product(1, 2, 3, 4, 10000);
        due("the least stock", x.ofProduct(0, STOCK), 0);
        due("the most stock", x.ofProduct(1, STOCK), 10000);
        for (int product = 0; product < 2; product++) {
            due("backlog", x.ofProduct(product, BACKLOG), 0);
            due("error", x.ofProduct(product, ERROR), 0);
            due("cover", x.ofProduct(product, COVER), 0);
        }
        LotFences y = takenBack();
        y.product(1, 2, 3, 4, 6);
        due("stock of a number that had another product", y.ofProduct(0, STOCK), 6);
        due("backlog of it", y.ofProduct(0, BACKLOG), 0);
        due("error of it", y.ofProduct(0, ERROR), 0);
    }

    private static void forecastsAtFirst() {
        sentence("5, 11", "Settings", "a forecast for each week (0 to 1000 units; 0 at first),");
        LotFences x = one(1, 1, 0, 0);
        dueRow(x, 0, FORECAST, 0, 0, 0, 0, 0, 0, 0, 0, 0, 0, 0, 0);
        for (int week = 0; week < 12; week++) {
            due("forecast(0, " + week + ", 1001)", x.forecast(0, week, 1001), BAD_VALUE);
            due("forecast(0, " + week + ", -1)", x.forecast(0, week, -1), BAD_VALUE);
            due("forecast(0, " + week + ", 1000)", x.forecast(0, week, 1000), 0);
        }
        due("forecast(0, 6, 0)", x.forecast(0, 6, 0), 1000);
        dueRow(x, 0, FORECAST, 1000, 1000, 1000, 1000, 1000, 1000, 0, 1000, 1000, 1000, 1000, 1000);
        LotFences y = takenBack();
        y.product(1, 2, 3, 4, 6);
        dueRow(y, 0, FORECAST, 0, 0, 0, 0, 0, 0, 0, 0, 0, 0, 0, 0);
    }

    private static void plansAtFirst() {
        sentence("7, 11", "Settings", "and a plan: how many lots of it are made in each week (0 to 1000; 0 at first).");
        LotFences x = one(1, 1, 0, 0);
        dueRow(x, 0, LOTS, 0, 0, 0, 0, 0, 0, 0, 0, 0, 0, 0, 0);
        x.set(FENCE, 0);
        x.set(OVERTIME, 500);
        x.set(HOURS, 1000);
        for (int week = 0; week < 12; week++) {
            due("lots(0, " + week + ", 1001)", x.lots(0, week, 1001), BAD_VALUE);
            due("lots(0, " + week + ", -1)", x.lots(0, week, -1), BAD_VALUE);
            due("lots(0, " + week + ", 1000)", x.lots(0, week, 1000), 0);
        }
        due("lots(0, 6, 0)", x.lots(0, 6, 0), 1000);
        dueRow(x, 0, LOTS, 1000, 1000, 1000, 1000, 1000, 1000, 0, 1000, 1000, 1000, 1000, 1000);
        LotFences y = takenBack();
        y.product(1, 2, 3, 4, 6);
        dueRow(y, 0, LOTS, 0, 0, 0, 0, 0, 0, 0, 0, 0, 0, 0, 0);
    }

    private static void familiesAtFirst() {
        sentence("4, 14", "Settings", "Families have hours for a setup, too (0 to 50; 5 at first).");
        LotFences x = new LotFences();
        for (int family = 0; family < 4; family++) {
            due("count(" + (19 + family) + ")", x.count(19 + family), 5);
            due("family(" + family + ", -1)", x.family(family, -1), BAD_VALUE);
            due("family(" + family + ", 51)", x.family(family, 51), BAD_VALUE);
            due("family(" + family + ", 0)", x.family(family, 0), 5);
            due("family(" + family + ", 50)", x.family(family, 50), 0);
            due("count(" + (19 + family) + ") then", x.count(19 + family), 50);
        }
    }

    /** Two products of the family 3, one of the family 1; the fence is at 0. */
    private static LotFences three() {
        LotFences x = new LotFences();
        x.set(FENCE, 0);
        x.product(3, 1, 7, 4, 0);
        x.product(3, 1, 1, 0, 0);
        x.product(1, 1, 2, 6, 0);
        x.family(3, 30);
        return x;
    }

    private static void hours() {
        sentence("7, 8, 13", "Settings", "The hours of a week are, for each product of which lots are made in it, "
            + "its hours for a setup, and lots * hours for a lot; and for each family with such a product the "
            + "hours of the family.");
        LotFences x = three();
        due("no lots", x.ofWeek(4, 0), 0);
        x.lots(0, 4, 1);
        due("one lot: 4 + 7 + 30", x.ofWeek(4, 0), 41);
        x.lots(1, 4, 2);
        due("the family once only, a setup of 0 hours", x.ofWeek(4, 0), 43);
        x.lots(2, 4, 3);
        due("another family: 6 + 6 + 5", x.ofWeek(4, 0), 60);
        due("another week", x.ofWeek(5, 0), 0);
        x.family(1, 0);
        due("a family of 0 hours", x.ofWeek(4, 0), 55);
        x.lots(0, 4, 0);
        due("a product less", x.ofWeek(4, 0), 44);
        x.lots(1, 4, 0);
        due("a family less", x.ofWeek(4, 0), 12);
        x.lots(2, 4, 0);
        due("no lots again", x.ofWeek(4, 0), 0);
    }

    private static void setups() {
        sentence("9, 13, 14", "Settings", "The setups of a week are these products and these families.");
        LotFences x = three();
        due("no lots", x.ofWeek(0, 1), 0);
        x.lots(1, 0, 1);
        due("a product and its family", x.ofWeek(0, 1), 2);
        x.lots(1, 0, 9);
        due("many lots of it", x.ofWeek(0, 1), 2);
        x.lots(0, 0, 1);
        due("two of the same family", x.ofWeek(0, 1), 3);
        x.family(1, 0);
        x.lots(2, 0, 1);
        due("another family, of 0 hours", x.ofWeek(0, 1), 5);
        x.weeks(1);
        due("setups so far", x.count(2), 5);
        due("costs of setups", x.count(4), 5 * 50 + 1 + 9 + 1);
    }

    private static void overtime() {
        sentence("9, 13, 14", "Settings", "Overtime of a week is what its hours are above HOURS.");
        LotFences x = one(1, 10, 5, 0);
        x.set(FENCE, 0);
        x.lots(0, 0, 9);
        due("no lots", x.ofWeek(1, 2), 0);
        due("100 hours of 100", x.ofWeek(0, 2), 0);
        x.set(HOURS, 101);
        due("100 hours of 101", x.ofWeek(0, 2), 0);
        x.set(HOURS, 99);
        due("100 hours of 99", x.ofWeek(0, 2), 1);
        x.set(HOURS, 0);
        due("100 hours of 0, more than OVERTIME", x.ofWeek(0, 2), 100);
        x.weeks(1);
        due("overtime so far", x.count(3), 100);
    }

    private static void cover() {
        sentence("8, 10", "Settings", "The cover of a product is error * FACTOR / 100 units.");
        LotFences x = one(1, 1, 0, 1000);
        due("without an error", x.ofProduct(0, COVER), 0);
        x.actual(0, 80);
        x.weeks(1);
        due("error", x.ofProduct(0, ERROR), 10);
        due("FACTOR 100", x.ofProduct(0, COVER), 10);
        int[] factors = {0, 9, 10, 99, 400};
        int[] covers = {0, 0, 1, 9, 40};
        for (int k = 0; k < factors.length; k++) {
            x.set(FACTOR, factors[k]);
            due("FACTOR " + factors[k], x.ofProduct(0, COVER), covers[k]);
        }
    }

    private static void projection() {
        sentence("12", "Projection", "The projection of a product behind a week is stock less backlog, and for "
            + "each week up to this one lots * lot size more, and the forecast less");
        LotFences x = one(10, 1, 0, 0);
        x.set(FENCE, 0);
        due("of nothing", x.projection(0, 11), 0);
        row(x, 0, 0, 1, 2, 3);
        x.forecast(0, 11, 40);
        x.lots(0, 1, 2);
        x.lots(0, 11, 3);
        due("behind week 0", x.projection(0, 0), -1);
        due("behind week 1", x.projection(0, 1), 17);
        due("behind week 2", x.projection(0, 2), 14);
        due("behind week 10", x.projection(0, 10), 14);
        due("behind week 11", x.projection(0, 11), 4);
        x.set(FENCE, 8);
        x.weeks(1);
        due("less a backlog of 1, behind week 0", x.projection(0, 0), 17);
        LotFences y = one(10, 1, 0, 30);
        y.forecast(0, 0, 4);
        due("stock, behind week 0", y.projection(0, 0), 26);
    }

    private static void projectionIsAsForecast() {
        sentence("12", "Projection", "(also for the present week, whatever was told to come).");
        LotFences x = one(10, 1, 0, 30);
        x.forecast(0, 0, 4);
        x.actual(0, 0);
        due("0 were told", x.projection(0, 0), 26);
        x.actual(0, 2000);
        due("2000 were told", x.projection(0, 0), 26);
        due("2000 were told, behind week 11", x.projection(0, 11), 26);
    }

    private static void projectionBelowZero() {
        sentence("12", "Projection", "(It can be below 0.)");
        LotFences x = one(10, 1, 0, 3);
        row(x, 0, 0, 3, 1, 2, 1000, 1000, 1000, 1000, 1000, 1000, 1000, 1000, 1000);
        due("behind week 0", x.projection(0, 0), 0);
        due("behind week 1", x.projection(0, 1), -1);
        due("behind week 2", x.projection(0, 2), -3);
        due("behind week 11", x.projection(0, 11), -9003);
    }
}
