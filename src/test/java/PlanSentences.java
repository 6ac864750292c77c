/** The promises 5 to 9: forecast, actual, lots, plan, weeks. */
final class PlanSentences extends Sentences {
    private static final int[] NO_PRODUCTS = {-1, 2, 9, 10, LEAST_INT, MOST_INT};
    private static final int[] NO_WEEKS = {-1, 12, LEAST_INT, MOST_INT};

    static void all() {
        forecastTells();
        forecastLeavesPlans();
        forecastIsAChange();
        forecastWeek();
        forecastUnits();
        forecastReturns();
        forecastOfNothing();
        forecastOutOfRange();
        actualTells();
        actualIsAChange();
        actualUnits();
        actualReturns();
        actualOfNothing();
        actualOutOfRange();
        lotsPlans();
        lotsIsAChange();
        lotsWeek();
        lotsLots();
        lotsReturns();
        lotsOfNothing();
        lotsOutOfRange();
        lotsFrozen();
        lotsAboveHours();
        planAnew();
        planIsAChange();
        planReturns();
        weeksPass();
        weeksIsAChange();
        weeksArgument();
        weeksReturns();
        weeksOutOfRange();
    }

    private static LotFences two() {
        LotFences x = one(10, 4, 2, 5);
        x.product(1, 5, 1, 0, 0);
        return x;
    }

    private static void forecastTells() {
        sentence(5, "Tells the forecast of a product for a week;");
        LotFences x = two();
        for (int week = 0; week < 12; week++) {
            x.forecast(1, week, 100 + week);
        }
        x.forecast(0, 11, 1000);
        dueRow(x, 1, FORECAST, 100, 101, 102, 103, 104, 105, 106, 107, 108, 109, 110, 111);
        dueRow(x, 0, FORECAST, 0, 0, 0, 0, 0, 0, 0, 0, 0, 0, 0, 1000);
    }

    private static void forecastLeavesPlans() {
        sentence(5, "plans stay as they are.");
        LotFences x = two();
        x.forecast(0, 3, 65);
        due("plan()", x.plan(), 6);
        x.forecast(0, 3, 0);
        x.forecast(0, 5, 1000);
        dueRow(x, 0, LOTS, 0, 0, 0, 6, 0, 0, 0, 0, 0, 0, 0, 0);
    }

    private static void forecastIsAChange() {
        sentence(5, "This is a change.");
        LotFences x = two();
        x.forecast(0, 11, 4);
        x.forecast(0, 11, 4);
        due("changes, the second one of nothing new", x.count(9), 4);
        due("undo()", x.undo(), 3);
        due("at(0, 11, 0)", x.at(0, 11, FORECAST), 4);
        due("undo()", x.undo(), 2);
        due("at(0, 11, 0)", x.at(0, 11, FORECAST), 0);
    }

    private static void forecastWeek() {
        sentence(5, "week: 0 to 11");
        LotFences x = two();
        due("forecast(0, -1, 1)", x.forecast(0, -1, 1), NO_SUCH);
        due("forecast(0, 0, 1)", x.forecast(0, 0, 1), 0);
        due("forecast(0, 11, 2)", x.forecast(0, 11, 2), 0);
        due("forecast(0, 12, 1)", x.forecast(0, 12, 1), NO_SUCH);
        dueRow(x, 0, FORECAST, 1, 0, 0, 0, 0, 0, 0, 0, 0, 0, 0, 2);
    }

    private static void forecastUnits() {
        sentence(5, "units: 0 to 1000");
        LotFences x = two();
        due("forecast(1, 0, 1001)", x.forecast(1, 0, 1001), BAD_VALUE);
        due("forecast(1, 0, 1000)", x.forecast(1, 0, 1000), 0);
        due("forecast(1, 0, -1)", x.forecast(1, 0, -1), BAD_VALUE);
        due("forecast(1, 0, 0)", x.forecast(1, 0, 0), 1000);
    }

    private static void forecastReturns() {
        sentence(5, "Returns the previous forecast;");
        LotFences x = two();
        due("forecast(1, 4, 1000)", x.forecast(1, 4, 1000), 0);
        due("forecast(1, 4, 7)", x.forecast(1, 4, 7), 1000);
        due("forecast(1, 4, 7) again", x.forecast(1, 4, 7), 7);
        due("forecast(0, 4, 7)", x.forecast(0, 4, 7), 0);
        x.weeks(1);
        due("forecast(1, 3, 0)", x.forecast(1, 3, 0), 7);
    }

    private static void forecastOfNothing() {
        sentence(5, "NO_SUCH if there is no such product or week;");
        due("forecast(0, 0, 0) without products", new LotFences().forecast(0, 0, 0), NO_SUCH);
        LotFences x = two();
        for (int product : NO_PRODUCTS) {
            due("forecast(" + product + ", 0, 1)", x.forecast(product, 0, 1), NO_SUCH);
        }
        for (int week : NO_WEEKS) {
            due("forecast(0, " + week + ", 1)", x.forecast(0, week, 1), NO_SUCH);
            due("forecast(0, " + week + ", 1001)", x.forecast(0, week, 1001), NO_SUCH);
        }
        due("forecast(1, 11, 1)", x.forecast(1, 11, 1), 0);
    }

    private static void forecastOutOfRange() {
        sentence(5, "BAD_VALUE if units is out of range.");
        LotFences x = two();
        for (int units : new int[] {-1, NONE, 1001, LEAST_INT, MOST_INT}) {
            due("forecast(0, 5, " + units + ")", x.forecast(0, 5, units), BAD_VALUE);
        }
        due("at(0, 5, 0)", x.at(0, 5, FORECAST), 0);
        due("changes", x.count(9), 2);
    }

    private static void actualTells() {
        sentence(6, "Tells what really comes of a product in the present week.");
        LotFences x = two();
        x.forecast(0, 0, 4);
        x.forecast(1, 0, 9);
        x.actual(0, 1);
        due("the forecast stays", x.at(0, 0, FORECAST), 4);
        x.weeks(1);
        due("1 came", x.ofProduct(0, CAME), 1);
        due("9 came of the other one", x.ofProduct(1, CAME), 9);
        x.weeks(1);
        due("it was told for one week only", x.ofProduct(0, CAME), 1);
    }

    private static void actualIsAChange() {
        sentence(6, "This is a change.");
        LotFences x = two();
        x.actual(0, NONE);
        due("changes, nothing is different", x.count(9), 3);
        x.actual(0, 5);
        due("undo()", x.undo(), 3);
        due("told", x.ofProduct(0, TOLD), NONE);
    }

    private static void actualUnits() {
        sentence(6, "units: 0 to 2000, or NONE: as the forecast tells");
        int[] units = {0, 1, 2000, NONE};
        int[] came = {0, 1, 2000, 3};
        for (int k = 0; k < units.length; k++) {
            LotFences x = two();
            x.forecast(0, 0, 3);
            x.actual(0, 50);
            due("actual(0, " + units[k] + ")", x.actual(0, units[k]), 50);
            due("told", x.ofProduct(0, TOLD), units[k]);
            x.weeks(1);
            due("what came", x.ofProduct(0, CAME), came[k]);
        }
        due("actual(0, 2001)", two().actual(0, 2001), BAD_VALUE);
        due("actual(0, -1)", two().actual(0, -1), BAD_VALUE);
    }

    private static void actualReturns() {
        sentence(6, "Returns the number that was told before, NONE if there was none;");
        LotFences x = two();
        due("actual(0, 0)", x.actual(0, 0), NONE);
        due("actual(0, 2000)", x.actual(0, 2000), 0);
        due("actual(0, NONE)", x.actual(0, NONE), 2000);
        due("actual(0, NONE) again", x.actual(0, NONE), NONE);
        due("actual(1, 3)", x.actual(1, 3), NONE);
        x.weeks(1);
        due("actual(1, 3) in the next week", x.actual(1, 3), NONE);
    }

    private static void actualOfNothing() {
        sentence(6, "NO_SUCH if there is no such product;");
        due("actual(0, 0) without products", new LotFences().actual(0, 0), NO_SUCH);
        LotFences x = two();
        for (int product : NO_PRODUCTS) {
            due("actual(" + product + ", 0)", x.actual(product, 0), NO_SUCH);
            due("actual(" + product + ", NONE)", x.actual(product, NONE), NO_SUCH);
            due("actual(" + product + ", 2001)", x.actual(product, 2001), NO_SUCH);
        }
        due("actual(1, 0)", x.actual(1, 0), NONE);
    }

    private static void actualOutOfRange() {
        sentence(6, "BAD_VALUE if units is out of range.");
        LotFences x = two();
        for (int units : new int[] {-1, -2, -3, -4, -5, -7, 2001, LEAST_INT, MOST_INT}) {
            due("actual(0, " + units + ")", x.actual(0, units), BAD_VALUE);
        }
        due("told", x.ofProduct(0, TOLD), NONE);
        due("changes", x.count(9), 2);
    }

    private static void lotsPlans() {
        sentence(7, "Plans lots of a product in a week behind the fence.");
        LotFences x = two();
        x.lots(0, 2, 3);
        x.lots(1, 11, 4);
        x.lots(1, 2, 5);
        dueRow(x, 0, LOTS, 0, 0, 3, 0, 0, 0, 0, 0, 0, 0, 0, 0);
        dueRow(x, 1, LOTS, 0, 0, 5, 0, 0, 0, 0, 0, 0, 0, 0, 4);
        x.lots(0, 2, 1);
        due("they are the lots of the week then, no more", x.at(0, 2, LOTS), 1);
        x.lots(0, 2, 0);
        due("0 lots", x.at(0, 2, LOTS), 0);
    }

    private static void lotsIsAChange() {
        sentence(7, "This is a change.");
        LotFences x = two();
        x.lots(0, 5, 0);
        due("changes, nothing is different", x.count(9), 3);
        x.lots(0, 5, 9);
        due("undo()", x.undo(), 3);
        due("at(0, 5, 1)", x.at(0, 5, LOTS), 0);
    }

    private static void lotsWeek() {
        sentence(7, "week: FENCE to 11");
        for (int fence = 0; fence <= 8; fence++) {
            LotFences x = two();
            x.set(FENCE, fence);
            due("lots(0, FENCE - 1, 1), FENCE " + fence, x.lots(0, fence - 1, 1), fence == 0 ? NO_SUCH : NOT_POSSIBLE);
            due("lots(0, FENCE, 1), FENCE " + fence, x.lots(0, fence, 1), 0);
            due("lots(0, 11, 1), FENCE " + fence, x.lots(0, 11, 1), 0);
            due("lots(0, 12, 1), FENCE " + fence, x.lots(0, 12, 1), NO_SUCH);
        }
    }

    private static void lotsLots() {
        sentence(7, "lots: 0 to 1000");
        LotFences x = two();
        x.set(HOURS, 1000);
        x.set(OVERTIME, 500);
        due("lots(1, 5, -1)", x.lots(1, 5, -1), BAD_VALUE);
        due("lots(1, 5, 1000)", x.lots(1, 5, 1000), 0);
        due("lots(1, 5, 1001)", x.lots(1, 5, 1001), BAD_VALUE);
        due("lots(1, 5, 0)", x.lots(1, 5, 0), 1000);
    }

    private static void lotsReturns() {
        sentence(7, "Returns the previous lots;");
        LotFences x = two();
        due("lots(0, 4, 7)", x.lots(0, 4, 7), 0);
        due("lots(0, 4, 7) again", x.lots(0, 4, 7), 7);
        due("lots(1, 4, 2)", x.lots(1, 4, 2), 0);
        due("lots(0, 4, 0)", x.lots(0, 4, 0), 7);
        x.forecast(0, 6, 25);
        x.plan();
        due("lots(0, 6, 0) behind plan()", x.lots(0, 6, 0), 2);
    }

    private static void lotsOfNothing() {
        sentence(7, "NO_SUCH if there is no such product, or week is not 0 to 11;");
        due("lots(0, 5, 0) without products", new LotFences().lots(0, 5, 0), NO_SUCH);
        LotFences x = two();
        for (int product : NO_PRODUCTS) {
            due("lots(" + product + ", 5, 1)", x.lots(product, 5, 1), NO_SUCH);
            due("lots(" + product + ", 0, 1001)", x.lots(product, 0, 1001), NO_SUCH);
        }
        for (int week : NO_WEEKS) {
            due("lots(0, " + week + ", 1)", x.lots(0, week, 1), NO_SUCH);
            due("lots(0, " + week + ", 1001)", x.lots(0, week, 1001), NO_SUCH);
        }
        due("lots(0, 0, 1), frozen", x.lots(0, 0, 1), NOT_POSSIBLE);
        due("lots(1, 11, 1)", x.lots(1, 11, 1), 0);
    }

    private static void lotsOutOfRange() {
        sentence(7, "BAD_VALUE if lots is out of range;");
        LotFences x = two();
        for (int lots : new int[] {-1, NONE, 1001, LEAST_INT, MOST_INT}) {
            due("lots(0, 5, " + lots + ")", x.lots(0, 5, lots), BAD_VALUE);
            due("lots(0, 0, " + lots + "), frozen", x.lots(0, 0, lots), BAD_VALUE);
        }
        due("at(0, 5, 1)", x.at(0, 5, LOTS), 0);
        due("changes", x.count(9), 2);
    }

    private static void lotsFrozen() {
        sentence(7, "NOT_POSSIBLE if the week is frozen,");
        LotFences x = two();
        due("lots(0, 0, 1)", x.lots(0, 0, 1), NOT_POSSIBLE);
        due("lots(0, 1, 0), nothing would be different", x.lots(0, 1, 0), NOT_POSSIBLE);
        due("lots(0, 2, 1)", x.lots(0, 2, 1), 0);
        x.set(FENCE, 3);
        due("lots(0, 2, 0), frozen now", x.lots(0, 2, 0), NOT_POSSIBLE);
        x.set(FENCE, 0);
        due("lots(0, 0, 1), FENCE 0", x.lots(0, 0, 1), 0);
    }

    private static void lotsAboveHours() {
        sentence(7, "or its hours would be more than HOURS + OVERTIME, and more than they are now.");
        LotFences x = one(1, 10, 5, 0);
        x.product(1, 1, 4, 1, 0);
        due("130 of 120 hours", x.lots(0, 3, 12), NOT_POSSIBLE);
        due("120 of 120 hours", x.lots(0, 3, 11), 0);
        due("10 more, another family", x.lots(1, 3, 1), NOT_POSSIBLE);
        x.set(OVERTIME, 19);
        due("as many hours as now, 120 of 119", x.lots(0, 3, 11), 11);
        due("0 lots that were 0, 120 of 119", x.lots(1, 3, 0), 0);
        due("less hours than now", x.lots(0, 3, 10), 11);
        due("more hours than now", x.lots(0, 3, 11), NOT_POSSIBLE);
        x.set(HOURS, 50);
        x.set(OVERTIME, 0);
        due("less hours than now, still more than 50", x.lots(0, 3, 9), 10);
        due("at(0, 3, 1)", x.at(0, 3, LOTS), 9);
        due("more hours than now, more than 50 already", x.lots(0, 3, 10), NOT_POSSIBLE);
        due("another one in this week", x.lots(1, 3, 1), NOT_POSSIBLE);
        due("50 of 50 hours in another week", x.lots(0, 4, 4), 0);
        due("60 of 50 hours in another week", x.lots(0, 4, 5), NOT_POSSIBLE);
        x.set(HOURS, 1000);
        x.set(OVERTIME, 500);
        due("1500 of 1500 hours", x.lots(0, 5, 149), 0);
        due("10010 of 1500 hours", x.lots(0, 5, 1000), NOT_POSSIBLE);
    }

    private static void planAnew() {
        sentence(8, "Plans all anew from FENCE on.");
        LotFences x = two();
        x.lots(0, 2, 1);
        x.lots(1, 11, 6);
        x.forecast(1, 2, 3);
        x.plan();
        dueRow(x, 0, LOTS, 0, 0, 0, 0, 0, 0, 0, 0, 0, 0, 0, 0);
        dueRow(x, 1, LOTS, 0, 0, 1, 0, 0, 0, 0, 0, 0, 0, 0, 0);
        x.set(FENCE, 3);
        x.forecast(1, 2, 13);
        x.plan();
        dueRow(x, 1, LOTS, 0, 0, 1, 2, 0, 0, 0, 0, 0, 0, 0, 0);
        due("the forecasts stay", x.at(1, 2, FORECAST), 13);
        due("no week passes", x.count(0), 0);
    }

    private static void planIsAChange() {
        sentence(8, "This is a change.");
        LotFences x = two();
        x.plan();
        due("changes, nothing is different", x.count(9), 3);
        x.lots(0, 5, 3);
        x.plan();
        due("undo()", x.undo(), 4);
        due("at(0, 5, 1)", x.at(0, 5, LOTS), 3);
    }

    private static void planReturns() {
        sentence(8, "Returns how many lots there are in all plans of the twelve weeks then.");
        due("plan() without products", new LotFences().plan(), 0);
        LotFences x = two();
        due("plan() of nothing", x.plan(), 0);
        x.set(FENCE, 0);
        x.lots(0, 0, 2);
        x.lots(1, 1, 3);
        x.set(FENCE, 2);
        x.lots(0, 7, 9);
        due("plan() with lots ahead of the fence", x.plan(), 5);
        x.forecast(0, 11, 36);
        x.forecast(1, 11, 16);
        due("plan() with lots in the week 11, too", x.plan(), 5 + 2 + 1);
        due("count(5)", x.count(5), 8);
    }

    private static void weeksPass() {
        sentence(9, "Lets weeks pass.");
        LotFences x = two();
        row(x, 0, 0, 1, 2, 3);
        x.weeks(2);
        due("what came", x.ofProduct(0, CAME), 3);
        due("the forecast of the present week", x.at(0, 0, FORECAST), 3);
        x.weeks(30);
        due("what came", x.ofProduct(0, CAME), 6);
        due("count(0)", x.count(0), 32);
    }

    private static void weeksIsAChange() {
        sentence(9, "This is a change.");
        LotFences x = two();
        row(x, 0, 0, 1, 2, 3);
        x.actual(0, 9);
        x.weeks(30);
        due("changes, 30 weeks are one", x.count(9), 6);
        due("undo()", x.undo(), 5);
        due("count(0)", x.count(0), 0);
        due("told", x.ofProduct(0, TOLD), 9);
        dueRow(x, 0, FORECAST, 1, 2, 3, 0);
        due("stock", x.ofProduct(0, STOCK), 5);
    }

    private static void weeksArgument() {
        sentence(9, "weeks: 1 to 30");
        LotFences x = two();
        due("weeks(0)", x.weeks(0), BAD_VALUE);
        due("weeks(1)", x.weeks(1), 1);
        due("weeks(31)", x.weeks(31), BAD_VALUE);
        due("weeks(30)", x.weeks(30), 31);
    }

    private static void weeksReturns() {
        sentence(9, "Returns how many weeks have passed in all;");
        LotFences x = new LotFences();
        int weeks = 0;
        for (int more = 1; more <= 30; more++) {
            weeks += more;
            due("weeks(" + more + ")", x.weeks(more), weeks);
        }
        due("count(0)", x.count(0), 465);
        x.undo();
        due("weeks(2) behind undo()", x.weeks(2), 437);
    }

    private static void weeksOutOfRange() {
        sentence(9, "BAD_VALUE if weeks is out of range.");
        LotFences x = two();
        for (int weeks : new int[] {0, -1, 31, LEAST_INT, MOST_INT}) {
            due("weeks(" + weeks + ")", x.weeks(weeks), BAD_VALUE);
        }
        due("count(0)", x.count(0), 0);
        due("changes", x.count(9), 2);
    }
}
