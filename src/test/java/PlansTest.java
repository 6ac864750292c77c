/** Promises 5 to 9: forecast, actual, lots, plan, weeks. */
public final class PlansTest {
    public static void main(String[] args) {
        forecast();
        actual();
        lots();
        lotsAboveTheHours();
        planCoversAndLooks();
        planOrder();
        planHours();
        planFamilies();
        planMost();
        planFrozen();
        planCover();
        weeks();
        weekThatPasses();
        errorsAndCosts();
        rowsMoveOn();
        weeksPlanAnew();
        Due.end();
    }

    private static void due(String call, long got, long want) {
        Due.due(call, got, want);
    }

    private static void dueRow(String call, LotFences x, int product, int what, int... want) {
        for (int week = 0; week < want.length; week++) {
            due(call + ": at(" + product + ", " + week + ", " + what + ")", x.at(product, week, what), want[week]);
        }
    }

    private static void forecast() {
        LotFences x = new LotFences();
        due("5: forecast() without products", x.forecast(0, 0, 0), -1);
        x.product(0, 1, 1, 0, 0);
        x.product(0, 1, 1, 0, 0);
        due("5: forecast(-1, 0, 0)", x.forecast(-1, 0, 0), -1);
        due("5: forecast(2, 0, 0)", x.forecast(2, 0, 0), -1);
        due("5: forecast(0, -1, 0)", x.forecast(0, -1, 0), -1);
        due("5: forecast(0, 12, 0)", x.forecast(0, 12, 0), -1);
        due("5: forecast(0, 12, 1001)", x.forecast(0, 12, 1001), -1);
        due("5: forecast(0, 0, -1)", x.forecast(0, 0, -1), -2);
        due("5: forecast(0, 0, 1001)", x.forecast(0, 0, 1001), -2);
        due("5: forecast(most int, most int, 1)", x.forecast(Integer.MAX_VALUE, Integer.MAX_VALUE, 1), -1);
        due("5: forecast(0, least int, 1)", x.forecast(0, Integer.MIN_VALUE, 1), -1);
        due("5: wrong ones are no change", x.count(9), 2);
        for (int week = 0; week < 12; week++) {
            due("5: forecast(1, .., ..)", x.forecast(1, week, 100 + week), 0);
        }
        due("5: forecast(1, 11, 1000)", x.forecast(1, 11, 1000), 111);
        due("5: forecast(1, 11, 0)", x.forecast(1, 11, 0), 1000);
        dueRow("5", x, 1, 0, 100, 101, 102, 103, 104, 105, 106, 107, 108, 109, 110, 0);
        dueRow("5", x, 0, 0, 0, 0, 0, 0, 0, 0, 0, 0, 0, 0, 0, 0);
        due("5: plans stay", x.count(5), 0);
        due("5: count(9)", x.count(9), 6);
    }

    private static void actual() {
        LotFences x = new LotFences();
        due("6: actual() without products", x.actual(0, 0), -1);
        x.product(0, 1, 1, 0, 0);
        due("6: actual(-1, 0)", x.actual(-1, 0), -1);
        due("6: actual(1, 2001)", x.actual(1, 2001), -1);
        due("6: actual(0, -1)", x.actual(0, -1), -2);
        due("6: actual(0, -5)", x.actual(0, -5), -2);
        due("6: actual(0, -7)", x.actual(0, -7), -2);
        due("6: actual(0, 2001)", x.actual(0, 2001), -2);
        due("6: wrong ones are no change", x.count(9), 1);
        due("6: actual(0, 2000)", x.actual(0, 2000), -6);
        due("6: actual(0, 0)", x.actual(0, 0), 2000);
        due("6: actual(0, NONE)", x.actual(0, -6), 0);
        due("6: actual(0, NONE) again", x.actual(0, -6), -6);
        due("6: count(9)", x.count(9), 5);
        x.forecast(0, 0, 8);
        x.actual(0, 0);
        due("6: projection(0, 0)", x.projection(0, 0), -8);
        x.weeks(1);
        due("6: 0 that was told is not the forecast", x.ofProduct(0, 11), 0);
        x.forecast(0, 0, 9);
        x.actual(0, 3);
        x.actual(0, -6);
        x.weeks(1);
        due("6: NONE is the forecast", x.ofProduct(0, 11), 9);
    }

    private static void lots() {
        LotFences x = new LotFences();
        due("7: lots() without products", x.lots(0, 5, 1), -1);
        x.product(0, 10, 2, 3, 0);
        due("7: lots(1, 5, 1)", x.lots(1, 5, 1), -1);
        due("7: lots(-1, 5, 1)", x.lots(-1, 5, 1), -1);
        due("7: lots(0, -1, 1)", x.lots(0, -1, 1), -1);
        due("7: lots(0, 12, 1001)", x.lots(0, 12, 1001), -1);
        due("7: lots(0, 5, -1)", x.lots(0, 5, -1), -2);
        due("7: lots(0, 0, 1001)", x.lots(0, 0, 1001), -2);
        due("7: lots(0, 5, most int)", x.lots(0, 5, Integer.MAX_VALUE), -2);
        due("7: lots(0, 0, 1)", x.lots(0, 0, 1), -5);
        due("7: lots(0, 1, 0), frozen", x.lots(0, 1, 0), -5);
        due("7: wrong ones are no change", x.count(9), 1);
        due("7: lots(0, 2, 1)", x.lots(0, 2, 1), 0);
        due("7: lots(0, 2, 7)", x.lots(0, 2, 7), 1);
        due("7: lots(0, 11, 9)", x.lots(0, 11, 9), 0);
        due("7: lots(0, 2, 0)", x.lots(0, 2, 0), 7);
        due("7: count(5)", x.count(5), 9);
        due("7: count(9)", x.count(9), 5);
        x.set(2, 8);
        due("7: lots(0, 7, 1), FENCE 8", x.lots(0, 7, 1), -5);
        due("7: lots(0, 8, 1), FENCE 8", x.lots(0, 8, 1), 0);
        x.set(2, 0);
        due("7: lots(0, 0, 1), FENCE 0", x.lots(0, 0, 1), 0);
    }

    private static void lotsAboveTheHours() {
        LotFences x = new LotFences();
        x.product(0, 1, 10, 5, 0);
        x.product(1, 1, 1, 0, 0);
        due("7: 5 + 5 + 11 * 10 = 120", x.lots(0, 3, 11), 0);
        due("7: 130 is too much", x.lots(0, 3, 12), -5);
        due("7: another family has 6 more", x.lots(1, 3, 1), -5);
        due("7: then it stays", x.at(0, 3, 1), 11);
        x.set(0, 50);
        due("7: less is possible above the hours", x.lots(0, 3, 10), 11);
        due("7: as much, too", x.lots(0, 3, 10), 10);
        due("7: more is not", x.lots(0, 3, 11), -5);
        due("7: lots(0, 3, 10)", x.lots(0, 3, 10), 10);
        x.set(0, 1000);
        x.set(1, 500);
        due("7: lots(1, 4, 1000)", x.lots(1, 4, 1000), 0);
        due("7: lots(1, 4, 0)", x.lots(1, 4, 0), 1000);
    }

    private static void planCoversAndLooks() {
        LotFences x = new LotFences();
        x.product(0, 10, 1, 0, 5);
        x.set(3, 1);
        x.forecast(0, 2, 5);
        x.forecast(0, 3, 1);
        x.forecast(0, 4, 30);
        x.forecast(0, 10, 20);
        x.forecast(0, 11, 10);
        due("8: plan(), LOOK 1", x.plan(), 7);
        dueRow("8, LOOK 1", x, 0, 1, 0, 0, 0, 1, 3, 0, 0, 0, 0, 0, 2, 1);
        x.set(3, 2);
        due("8: plan(), LOOK 2", x.plan(), 7);
        dueRow("8, LOOK 2", x, 0, 1, 0, 0, 0, 4, 0, 0, 0, 0, 0, 0, 3, 0);
        x.forecast(0, 8, 10);
        x.set(3, 5);
        due("8: plan(), LOOK 5", x.plan(), 8);
        dueRow("8, LOOK 5", x, 0, 1, 0, 0, 0, 4, 0, 0, 0, 0, 4, 0, 0, 0);
        x.set(3, 6);
        due("8: plan(), LOOK 6", x.plan(), 8);
        dueRow("8, LOOK 6", x, 0, 1, 0, 0, 0, 5, 0, 0, 0, 0, 0, 0, 3, 0);
        due("8: plan() is a change", x.undo() + 1, 6);
        due("8: at(0, 8, 1) before it", x.at(0, 8, 1), 4);
    }

    /** There are hours for one product alone: the one that is gone through first gets them. */
    private static void planOrder() {
        LotFences x = new LotFences();
        x.set(0, 9);
        x.set(1, 0);
        for (int product = 0; product < 3; product++) {
            x.product(product, 1, 4, 0, 0);
        }
        x.forecast(0, 2, 1);
        x.forecast(1, 2, 2);
        x.forecast(2, 2, 2);
        due("8: plan()", x.plan(), 5);
        dueRow("8, order", x, 0, 1, 0, 0, 0, 0, 1, 0, 0);
        dueRow("8, order", x, 1, 1, 0, 0, 1, 0, 0, 1, 0, 0);
        dueRow("8, order", x, 2, 1, 0, 0, 0, 1, 0, 0, 1, 0);
    }

    private static void planHours() {
        LotFences x = new LotFences();
        x.set(0, 30);
        x.set(1, 0);
        x.set(2, 0);
        x.product(0, 1, 10, 20, 0);
        x.product(1, 1, 3, 0, 0);
        x.product(1, 2, 1, 1, 0);
        x.forecast(0, 0, 50);
        x.forecast(1, 0, 10);
        due("8: what needs 35 hours gets none, the next one does", x.plan(), 10);
        dueRow("8, hours", x, 0, 1, 0, 0, 0, 0);
        dueRow("8, hours", x, 1, 1, 8, 2, 0, 0);
        x.forecast(1, 0, 8);
        x.forecast(2, 0, 1);
        due("8: one hour is left, two are needed", x.plan(), 9);
        dueRow("8, hours", x, 2, 1, 0, 1, 0);
        x.set(1, 1);
        due("8: the family is set up already", x.plan(), 9);
        dueRow("8, hours", x, 2, 1, 1, 0, 0);
        due("8: ofWeek(0, 0)", x.ofWeek(0, 0), 31);
        x.set(0, 0);
        x.set(1, 0);
        due("8: no hours at all", x.plan(), 0);
    }

    /** A family is set up once a week, also when another family comes between. */
    private static void planFamilies() {
        LotFences x = new LotFences();
        x.set(0, 26);
        x.set(1, 0);
        int[] families = {3, 1, 3, 1};
        for (int product = 0; product < 4; product++) {
            x.product(families[product], 1, 3, 1, 0);
            x.forecast(product, 2, 1);
        }
        due("8: 5 + 4 + 5 + 4 + 4 + 4", x.plan(), 4);
        due("8: ofWeek(2, 0)", x.ofWeek(2, 0), 26);
        due("8: ofWeek(2, 1)", x.ofWeek(2, 1), 6);
        x.set(0, 25);
        due("8: plan()", x.plan(), 4);
        due("8: ofWeek(2, 0)", x.ofWeek(2, 0), 22);
        due("8: ofWeek(3, 0)", x.ofWeek(3, 0), 9);
        due("8: at(3, 3, 1)", x.at(3, 3, 1), 1);
    }

    private static void planMost() {
        LotFences x = new LotFences();
        x.set(0, 1000);
        x.set(1, 500);
        x.set(2, 0);
        x.set(3, 6);
        x.product(0, 1, 1, 0, 0);
        for (int week = 0; week < 6; week++) {
            x.forecast(0, week, 1000);
        }
        due("8: 1000 lots at most", x.plan(), 6000);
        dueRow("8, most", x, 0, 1, 1000, 1000, 1000, 1000, 1000, 1000, 0);
    }

    private static void planFrozen() {
        LotFences x = new LotFences();
        x.set(2, 0);
        x.product(0, 10, 10, 0, 0);
        x.lots(0, 0, 3);
        x.lots(0, 1, 4);
        x.lots(0, 5, 2);
        x.forecast(0, 3, 70);
        x.forecast(0, 4, 10);
        x.set(2, 2);
        x.set(0, 10);
        due("8: plan()", x.plan(), 8);
        dueRow("8, frozen", x, 0, 1, 3, 4, 0, 0, 1, 0, 0, 0, 0, 0, 0, 0);
        due("8: a frozen week above the hours", x.ofWeek(1, 0), 45);
        x.set(2, 1);
        due("8: plan(), FENCE 1", x.plan(), 8);
        dueRow("8, frozen", x, 0, 1, 3, 0, 0, 2, 2, 1, 0);
    }

    private static void planCover() {
        LotFences x = new LotFences();
        x.product(0, 5, 1, 0, 100);
        x.actual(0, 80);
        x.weeks(1);
        due("8: error", x.ofProduct(0, 6), 10);
        due("8: cover", x.ofProduct(0, 7), 10);
        x.set(4, 200);
        due("8: a stock of 20 is not less than a cover of 20", x.plan(), 0);
        x.set(4, 219);
        due("8: rounded down to 21", x.ofProduct(0, 7), 21);
        due("8: plan()", x.plan(), 1);
        dueRow("8, cover", x, 0, 1, 0, 0, 1, 0);
        x.forecast(0, 3, 4);
        due("8: 1 and 4 together", x.plan(), 1);
        x.forecast(0, 3, 5);
        due("8: 1 and 5 together", x.plan(), 2);
        dueRow("8, cover", x, 0, 1, 0, 0, 2, 0);
        coverOrders();
    }

    /** The least projection goes first, not what is missing most. */
    private static void coverOrders() {
        LotFences x = new LotFences();
        x.product(0, 1, 10, 0, 1000);
        x.actual(0, 800);
        x.weeks(1);
        x.product(1, 1, 10, 0, 90);
        x.forecast(1, 1, 100);
        x.set(4, 400);
        due("8: cover", x.ofProduct(0, 7), 400);
        due("8: 10 lots, and all that the hours allow", x.plan(), 10 + 1 + 9 * 11);
        due("8: at(1, 2, 1)", x.at(1, 2, 1), 10);
        due("8: at(0, 2, 1)", x.at(0, 2, 1), 1);
        due("8: at(0, 3, 1)", x.at(0, 3, 1), 11);
    }

    private static void weeks() {
        LotFences x = new LotFences();
        due("9: weeks(0)", x.weeks(0), -2);
        due("9: weeks(31)", x.weeks(31), -2);
        due("9: weeks(-1)", x.weeks(-1), -2);
        due("9: weeks(most int)", x.weeks(Integer.MAX_VALUE), -2);
        due("9: wrong ones are no change", x.count(9), 0);
        due("9: weeks(1)", x.weeks(1), 1);
        due("9: weeks(30)", x.weeks(30), 31);
        due("9: weeks(2)", x.weeks(2), 33);
        due("9: count(9)", x.count(9), 3);
        due("9: count(4)", x.count(4), 0);
    }

    private static void weekThatPasses() {
        LotFences x = new LotFences();
        x.set(2, 0);
        x.product(0, 10, 4, 2, 5);
        x.product(1, 6, 3, 1, 40);
        x.forecast(0, 0, 50);
        x.forecast(1, 0, 30);
        x.lots(0, 0, 3);
        x.lots(1, 0, 1);
        due("9: hours", x.ofWeek(0, 0), 28);
        x.set(0, 20);
        due("9: weeks(1)", x.weeks(1), 1);
        int[] first = {0, 10, 4, 2, 0, 15, 0, 0, -6, 30, 35, 50, 5};
        int[] second = {1, 6, 3, 1, 16, 0, 0, 0, -6, 6, 30, 30, 40};
        for (int what = 0; what < 13; what++) {
            due("9: ofProduct(0, " + what + ")", x.ofProduct(0, what), first[what]);
            due("9: ofProduct(1, " + what + ")", x.ofProduct(1, what), second[what]);
        }
        due("9: setups", x.count(2), 4);
        due("9: overtime", x.count(3), 8);
        due("9: costs 4 * 50 + 8 * 3 + 16 * 1 + 15 * 5", x.count(4), 315);
        due("9: stock", x.count(6), 16);
        due("9: backlog", x.count(7), 15);
        due("9: planned anew, 15 units late", x.at(0, 0, 1), 2);
        x.forecast(0, 0, 0);
        x.weeks(1);
        due("9: the backlog is shipped", x.ofProduct(0, 10), 50);
        due("9: stock", x.ofProduct(0, 4), 5);
        due("9: costs 2 * 50 + 5 + 16", x.count(4), 315 + 100 + 21);
    }

    private static void errorsAndCosts() {
        LotFences x = new LotFences();
        x.product(0, 1, 1, 0, 1000);
        x.forecast(0, 0, 10);
        x.forecast(0, 1, 10);
        x.actual(0, 19);
        x.weeks(1);
        due("9: (0 + 9) / 8 rounded up", x.ofProduct(0, 6), 2);
        x.actual(0, 2);
        x.weeks(1);
        due("9: (14 + 8) / 8 rounded up", x.ofProduct(0, 6), 3);
        x.weeks(1);
        due("9: 21 / 8 rounded up", x.ofProduct(0, 6), 3);
        x.actual(0, 43);
        x.weeks(1);
        due("9: (21 + 43) / 8", x.ofProduct(0, 6), 8);
        x.weeks(1);
        due("9: 56 / 8", x.ofProduct(0, 6), 7);
        due("9: costs of stock", x.count(4), 981 + 979 + 979 + 936 + 936);
        x.set(6, 100);
        x.weeks(1);
        due("9: costs of stock at 100", x.count(4), 4811 + 93600);
        x.set(6, 0);
        x.set(7, 100);
        x.actual(0, 2000);
        x.weeks(1);
        due("9: costs of backlog at 100", x.count(4), 98411 + 106400);
    }

    private static void rowsMoveOn() {
        LotFences x = new LotFences();
        x.set(2, 8);
        x.product(0, 1, 1, 0, 10000);
        for (int week = 0; week < 12; week++) {
            x.forecast(0, week, week + 1);
        }
        x.set(2, 0);
        for (int week = 0; week < 12; week++) {
            x.lots(0, week, 20 + week);
        }
        x.set(2, 8);
        x.actual(0, 5);
        x.weeks(1);
        dueRow("9", x, 0, 0, 2, 3, 4, 5, 6, 7, 8, 9, 10, 11, 12, 12);
        dueRow("9", x, 0, 1, 21, 22, 23, 24, 25, 26, 27, 28, 0, 0, 0, 0);
        due("9: told", x.ofProduct(0, 8), -6);
        x.weeks(2);
        dueRow("9", x, 0, 0, 4, 5, 6, 7, 8, 9, 10, 11, 12, 12, 12, 12);
        dueRow("9", x, 0, 1, 23, 24, 25, 26, 27, 28, 0, 0, 0, 0, 0, 0);
        due("9: came", x.ofProduct(0, 11), 5 + 2 + 3);
        due("9: made", x.ofProduct(0, 9), 20 + 21 + 22);
    }

    /** Each of several weeks is planned anew behind it, not only the last one. */
    private static void weeksPlanAnew() {
        LotFences x = new LotFences();
        x.set(2, 1);
        x.set(3, 1);
        x.product(0, 10, 1, 0, 0);
        x.forecast(0, 3, 40);
        x.weeks(3);
        due("9: planned in time", x.at(0, 0, 1), 4);
        x.weeks(1);
        due("9: shipped in time", x.ofProduct(0, 5), 0);
        due("9: made", x.ofProduct(0, 9), 40);
        due("9: setups", x.count(2), 2);
    }
}
