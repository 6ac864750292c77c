/** The promises 10 to 14: ofProduct, at, projection, ofWeek, count. */
final class NumberSentences extends Sentences {
    private static final int[] NO_PRODUCTS = {-1, 2, 9, 10, LEAST_INT, MOST_INT};
    private static final int[] NO_WEEKS = {-1, 12, LEAST_INT, MOST_INT};

    static void all() {
        ofProduct();
        ofProductTogether();
        ofProductOfNothing();
        ofProductOutOfRange();
        at();
        atOfNothing();
        atOutOfRange();
        projection();
        projectionReturns();
        projectionOfNothing();
        ofWeekHours();
        ofWeekSetups();
        ofWeekOvertime();
        ofWeekFamilies();
        ofWeekFrozen();
        ofWeekOfNothing();
        ofWeekOutOfRange();
        count();
        countSettings();
        countFamilies();
        countOutOfRange();
    }

    private static LotFences two() {
        LotFences x = one(10, 7, 4, 100);
        x.product(1, 3, 2, 6, 9);
        return x;
    }

    /** Behind the first week, in which 2 lots and 1 lot were made, 60 and 30 units came. */
    private static LotFences second() {
        LotFences x = two();
        x.set(FENCE, 0);
        x.forecast(0, 0, 20);
        x.forecast(1, 0, 30);
        x.lots(0, 0, 2);
        x.lots(1, 0, 1);
        x.actual(0, 60);
        x.weeks(1);
        return x;
    }

    private static void what(int what, String words, int first, int second, int firstThen, int secondThen) {
        sentence(10, words);
        LotFences x = two();
        due("ofProduct(0, " + what + ") at first", x.ofProduct(0, what), first);
        due("ofProduct(1, " + what + ") at first", x.ofProduct(1, what), second);
        LotFences y = second();
        due("ofProduct(0, " + what + ") behind a week", y.ofProduct(0, what), firstThen);
        due("ofProduct(1, " + what + ") behind a week", y.ofProduct(1, what), secondThen);
    }

    private static void ofProduct() {
        noBoundary("Promise 10", "Returns a number about a product.");
        what(0, "what: 0 its family,", 0, 1, 0, 1);
        what(1, "1 its lot size,", 10, 3, 10, 3);
        what(2, "2 its hours for a lot,", 7, 2, 7, 2);
        what(3, "3 its hours for a setup,", 4, 6, 4, 6);
        what(4, "4 its stock,", 100, 9, 60, 0);
        what(5, "5 its backlog,", 0, 0, 0, 18);
        what(6, "6 its error,", 0, 0, 5, 0);
        what(7, "7 its cover,", 0, 0, 5, 0);
        LotFences x = second();
        x.set(FACTOR, 399);
        due("5 * 399 / 100", x.ofProduct(0, COVER), 19);
        what(8, "8 what was told to come in this week (NONE),", NONE, NONE, NONE, NONE);
        x.actual(1, 0);
        due("0 was told", x.ofProduct(1, TOLD), 0);
        x.actual(1, 2000);
        due("2000 were told", x.ofProduct(1, TOLD), 2000);
        due("nothing was told of the other one", x.ofProduct(0, TOLD), NONE);
        what(9, "9 the units that were made,", 0, 0, 20, 3);
        what(10, "10 that were shipped,", 0, 0, 60, 12);
        what(11, "11 that came,", 0, 0, 60, 30);
        what(12, "12 the stock with which it began", 100, 9, 100, 9);
    }

    private static void ofProductTogether() {
        sentence(10, "Returns the number (12 and 9 together less 10 are 4; 11 less 10 is 5);");
        LotFences x = second();
        row(x, 0, 1, 40, 0, 700, 3);
        row(x, 1, 2, 8, 90);
        for (int week = 0; week < 6; week++) {
            for (int product = 0; product < 2; product++) {
                due("stock in week " + week, x.ofProduct(product, STOCK),
                    x.ofProduct(product, 12) + x.ofProduct(product, MADE) - x.ofProduct(product, SHIPPED));
                due("backlog in week " + week, x.ofProduct(product, BACKLOG),
                    x.ofProduct(product, CAME) - x.ofProduct(product, SHIPPED));
            }
            due("stock or backlog is 0", Math.min(x.ofProduct(0, STOCK), x.ofProduct(0, BACKLOG)), 0);
            x.weeks(1);
        }
        due("what came in all", x.ofProduct(0, CAME), 60 + 743);
    }

    private static void ofProductOfNothing() {
        sentence(10, "NO_SUCH if there is no such product;");
        due("ofProduct(0, 0) without products", new LotFences().ofProduct(0, 0), NO_SUCH);
        LotFences x = two();
        for (int product : NO_PRODUCTS) {
            due("ofProduct(" + product + ", 0)", x.ofProduct(product, 0), NO_SUCH);
            due("ofProduct(" + product + ", 13)", x.ofProduct(product, 13), NO_SUCH);
        }
        due("ofProduct(1, 0)", x.ofProduct(1, 0), 1);
        LotFences all = ten();
        due("ofProduct(9, 4) of ten", all.ofProduct(9, STOCK), 900);
        due("ofProduct(10, 4) of ten", all.ofProduct(10, STOCK), NO_SUCH);
    }

    private static void ofProductOutOfRange() {
        sentence(10, "BAD_VALUE if what is out of range.");
        LotFences x = two();
        for (int what : new int[] {-1, 13, LEAST_INT, MOST_INT}) {
            due("ofProduct(0, " + what + ")", x.ofProduct(0, what), BAD_VALUE);
        }
        due("ofProduct(0, 12)", x.ofProduct(0, 12), 100);
        due("ofProduct(1, 0)", x.ofProduct(1, 0), 1);
    }

    private static void at() {
        noBoundary("Promise 11", "Returns a number of a product in a week.");
        noBoundary("Promise 11", "Returns the number;");
        sentence(11, "what: 0 the forecast, 1 the lots");
        LotFences x = two();
        for (int week = 0; week < 12; week++) {
            x.forecast(1, week, 50 + week);
        }
        x.lots(1, 2, 1);
        x.lots(1, 11, 9);
        dueRow(x, 1, FORECAST, 50, 51, 52, 53, 54, 55, 56, 57, 58, 59, 60, 61);
        dueRow(x, 1, LOTS, 0, 0, 1, 0, 0, 0, 0, 0, 0, 0, 0, 9);
        dueRow(x, 0, FORECAST, 0, 0, 0, 0, 0, 0, 0, 0, 0, 0, 0, 0);
        dueRow(x, 0, LOTS, 0, 0, 0, 0, 0, 0, 0, 0, 0, 0, 0, 0);
    }

    private static void atOfNothing() {
        sentence(11, "NO_SUCH if there is no such product or week;");
        due("at(0, 0, 0) without products", new LotFences().at(0, 0, 0), NO_SUCH);
        LotFences x = two();
        for (int product : NO_PRODUCTS) {
            due("at(" + product + ", 0, 0)", x.at(product, 0, 0), NO_SUCH);
            due("at(" + product + ", 0, 2)", x.at(product, 0, 2), NO_SUCH);
        }
        for (int week : NO_WEEKS) {
            due("at(0, " + week + ", 1)", x.at(0, week, 1), NO_SUCH);
            due("at(0, " + week + ", -1)", x.at(0, week, -1), NO_SUCH);
        }
        due("at(1, 11, 1)", x.at(1, 11, 1), 0);
        due("at(0, 0, 0)", x.at(0, 0, 0), 0);
    }

    private static void atOutOfRange() {
        sentence(11, "BAD_VALUE if what is neither 0 nor 1.");
        LotFences x = two();
        for (int what : new int[] {-1, 2, LEAST_INT, MOST_INT}) {
            due("at(0, 0, " + what + ")", x.at(0, 0, what), BAD_VALUE);
            due("at(1, 11, " + what + ")", x.at(1, 11, what), BAD_VALUE);
        }
    }

    private static void projection() {
        sentence(12, "Returns the projection of a product behind a week.");
        LotFences x = two();
        row(x, 0, 0, 30, 0, 0, 90);
        x.forecast(0, 11, 5);
        x.lots(0, 4, 3);
        due("behind week 0", x.projection(0, 0), 70);
        due("behind week 2", x.projection(0, 2), 70);
        due("behind week 3", x.projection(0, 3), -20);
        due("behind week 4", x.projection(0, 4), 10);
        due("behind week 10", x.projection(0, 10), 10);
        due("behind week 11", x.projection(0, 11), 5);
        due("of the other one", x.projection(1, 11), 9);
    }

    private static void projectionReturns() {
        sentence(12, "Returns the units, which can be below 0, also -1;");
        LotFences x = one(1, 1, 0, 0);
        row(x, 0, 0, 0, 1, 1, 1, 1, 1, 1);
        for (int week = 0; week <= 6; week++) {
            due("behind week " + week, x.projection(0, week), -week);
        }
        LotFences y = one(100, 1, 0, 10000);
        y.set(HOURS, 1000);
        y.set(OVERTIME, 500);
        for (int week = 2; week < 12; week++) {
            y.lots(0, week, 1000);
        }
        due("as much as there can be", y.projection(0, 11), 1010000);
        for (int week = 0; week < 12; week++) {
            y.lots(0, week, 0);
            y.forecast(0, week, 1000);
        }
        due("all forecasts", y.projection(0, 11), -2000);
    }

    private static void projectionOfNothing() {
        sentence(12, "NO_SUCH if there is no such product or week.");
        due("projection(0, 0) without products", new LotFences().projection(0, 0), NO_SUCH);
        LotFences x = two();
        for (int product : NO_PRODUCTS) {
            due("projection(" + product + ", 0)", x.projection(product, 0), NO_SUCH);
        }
        for (int week : NO_WEEKS) {
            due("projection(0, " + week + ")", x.projection(0, week), NO_SUCH);
        }
        due("projection(0, 0)", x.projection(0, 0), 100);
        due("projection(1, 11)", x.projection(1, 11), 9);
    }

    /** Lots of all three products in week 4: of the families 0, 1 and 3. */
    private static LotFences made() {
        LotFences x = two();
        x.product(3, 1, 1, 0, 0);
        x.product(3, 1, 50, 0, 0);
        x.lots(0, 4, 9);
        x.lots(1, 4, 2);
        x.lots(2, 4, 1);
        x.lots(2, 11, 3);
        return x;
    }

    private static void ofWeekHours() {
        noBoundary("Promise 13", "Returns a number about a week.");
        noBoundary("Promise 13", "Returns the number;");
        sentence(13, "what: 0 its hours,");
        LotFences x = made();
        due("9 * 7 + 4 + 5, 2 * 2 + 6 + 5, 1 + 5", x.ofWeek(4, 0), 72 + 15 + 6);
        due("no lots", x.ofWeek(5, 0), 0);
        due("the last week", x.ofWeek(11, 0), 8);
    }

    private static void ofWeekSetups() {
        sentence(13, "1 its setups,");
        LotFences x = made();
        due("three products, three families", x.ofWeek(4, 1), 6);
        due("no lots", x.ofWeek(5, 1), 0);
        due("one product, one family", x.ofWeek(11, 1), 2);
        x.set(HOURS, 200);
        x.lots(3, 4, 1);
        due("a second one of the family 3", x.ofWeek(4, 1), 7);
    }

    private static void ofWeekOvertime() {
        sentence(13, "2 its overtime,");
        LotFences x = made();
        x.set(HOURS, 93);
        due("93 of 93 hours", x.ofWeek(4, 2), 0);
        x.set(HOURS, 92);
        due("93 of 92 hours", x.ofWeek(4, 2), 1);
        x.set(HOURS, 0);
        due("93 of 0 hours", x.ofWeek(4, 2), 93);
        due("no lots", x.ofWeek(5, 2), 0);
    }

    private static void ofWeekFamilies() {
        sentence(13, "3 the set of the families of which lots are made (bits),");
        LotFences x = made();
        due("0, 1 and 3", x.ofWeek(4, 3), 11);
        due("3 alone", x.ofWeek(11, 3), 8);
        due("none", x.ofWeek(5, 3), 0);
        x.lots(1, 4, 0);
        due("0 and 3", x.ofWeek(4, 3), 9);
        x.lots(2, 4, 0);
        due("0 alone", x.ofWeek(4, 3), 1);
    }

    private static void ofWeekFrozen() {
        sentence(13, "4 whether it is frozen (1 or 0)");
        LotFences x = made();
        for (int fence = 0; fence <= 8; fence++) {
            x.set(FENCE, fence);
            for (int week = 0; week < 12; week++) {
                due("ofWeek(" + week + ", 4), FENCE " + fence, x.ofWeek(week, 4), week < fence ? 1 : 0);
            }
        }
    }

    private static void ofWeekOfNothing() {
        sentence(13, "NO_SUCH if there is no such week;");
        LotFences x = two();
        for (int week : NO_WEEKS) {
            due("ofWeek(" + week + ", 0)", x.ofWeek(week, 0), NO_SUCH);
            due("ofWeek(" + week + ", 4)", x.ofWeek(week, 4), NO_SUCH);
            due("ofWeek(" + week + ", 5)", x.ofWeek(week, 5), NO_SUCH);
        }
        due("ofWeek(0, 4)", x.ofWeek(0, 4), 1);
        due("ofWeek(11, 4)", x.ofWeek(11, 4), 0);
    }

    private static void ofWeekOutOfRange() {
        sentence(13, "BAD_VALUE if what is out of range.");
        LotFences x = two();
        for (int what : new int[] {-1, 5, LEAST_INT, MOST_INT}) {
            due("ofWeek(0, " + what + ")", x.ofWeek(0, what), BAD_VALUE);
            due("ofWeek(11, " + what + ")", x.ofWeek(11, what), BAD_VALUE);
        }
    }

    private static void what(LotFences x, int what, String words, long first, long then) {
        sentence(14, words);
        due("count(" + what + ") of a new object", new LotFences().count(what), first);
        due("count(" + what + ")", x.count(what), then);
    }

    /** Two weeks have passed; the hours were 18 + 8 + 10 + 5 of 30. */
    private static LotFences counted() {
        LotFences x = two();
        x.set(FENCE, 0);
        x.set(HOURS, 30);
        x.lots(0, 0, 2);
        x.lots(1, 0, 1);
        x.actual(0, 60);
        x.actual(1, 30);
        x.weeks(1);
        x.set(FACTOR, 0);
        x.lots(0, 0, 0);
        x.lots(1, 0, 0);
        x.set(FENCE, 8);
        x.weeks(1);
        x.put(0x707070L);
        return x;
    }

    private static void count() {
        noBoundary("Promise 14", "Returns a number about the works.");
        noBoundary("Promise 14", "Returns the number;");
        LotFences x = counted();
        what(x, 0, "what: 0 weeks that have passed,", 0, 2);
        what(x, 1, "1 products,", 0, 2);
        due("count(1) of ten", ten().count(1), 10);
        what(x, 2, "2 setups so far,", 0, 4);
        what(x, 3, "3 hours of overtime so far,", 0, 36 - 30);
        what(x, 4, "4 the costs so far,", 0, 4 * 50 + 6 * 3 + 2 * (60 + 18 * 5));
        what(x, 5, "5 lots in all plans,", 0, 6);
        due("the lots of week 8", x.at(1, 8, LOTS), 6);
        LotFences y = one(1, 1, 0, 0);
        y.set(FENCE, 0);
        y.lots(0, 0, 2);
        y.lots(0, 11, 3);
        y.set(FENCE, 8);
        due("lots of the first and of the last week", y.count(5), 5);
        what(x, 6, "6 all stock,", 0, 60);
        due("count(6) of ten", ten().count(6), 4500);
        what(x, 7, "7 all backlog,", 0, 18);
        what(x, 8, "8 the length of the pad,", 0, 3);
        x.wipe();
        due("count(8) of an empty pad", x.count(8), 0);
        for (int k = 0; k < 10; k++) {
            x.put(0x703b703b703b703bL);
        }
        due("count(8) of a full pad", x.count(8), 80);
        what(x, 9, "9 how many changes can be undone,", 0, 6);
        for (int k = 5; k >= 0; k--) {
            x.undo();
            due("count(9) behind undo()", x.count(9), k);
        }
    }

    private static void countSettings() {
        sentence(14, "10 to 18 the settings,");
        LotFences x = new LotFences();
        int[] first = {100, 20, 2, 2, 100, 50, 1, 5, 3};
        for (int setting = 0; setting < 9; setting++) {
            due("count(" + (10 + setting) + ")", x.count(10 + setting), first[setting]);
            x.set(setting, 6);
            due("count(" + (10 + setting) + ") of 6", x.count(10 + setting), 6);
        }
    }

    private static void countFamilies() {
        sentence(14, "19 to 22 the hours of the families");
        LotFences x = new LotFences();
        for (int family = 0; family < 4; family++) {
            due("count(" + (19 + family) + ")", x.count(19 + family), 5);
            x.family(family, 50 - family);
        }
        for (int family = 0; family < 4; family++) {
            due("count(" + (19 + family) + ") then", x.count(19 + family), 50 - family);
        }
    }

    private static void countOutOfRange() {
        sentence(14, "BAD_VALUE if what is out of range.");
        LotFences x = two();
        for (int what : new int[] {-1, 23, -6, LEAST_INT, LEAST_INT + 10, LEAST_INT + 19, MOST_INT}) {
            due("count(" + what + ")", x.count(what), BAD_VALUE);
        }
        due("count(22)", x.count(22), 5);
        due("count(0)", x.count(0), 0);
    }
}
