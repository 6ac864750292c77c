/** The sections Planning and "A week" of the Terms. */
final class PlanningSentences extends Sentences {
    static void all() {
        plansBecomeZero();
        fromFenceToTheLastWeek();
        lessThanTheCover();
        leastProjectionFirst();
        lowestNumberFirst();
        asManyAsAreNeeded();
        coverAndNextWeeks();
        hoursThatAreLeft();
        familyIsSetUpOnce();
        noneOrThousand();
        frozen();
        lotsArrive();
        toldOrForecast();
        shipped();
        error();
        costs();
        weeksMoveUp();
        lastWeek();
        nothingTold();
        plannedAnew();
    }

    private static void plansBecomeZero() {
        sentence("8, 9", "Planning", "To plan means: the plans of all products in the weeks from FENCE on become 0;");
        int[] fences = {0, 1, 7, 8};
        for (int fence : fences) {
            LotFences x = one(1, 1, 0, 10000);
            x.product(1, 1, 1, 0, 10000);
            x.set(FENCE, 0);
            for (int week = 0; week < 12; week++) {
                x.lots(0, week, 1);
                x.lots(1, week, 2);
            }
            x.set(FENCE, fence);
            due("plan(), FENCE " + fence, x.plan(), 3 * fence);
            for (int week = 0; week < 12; week++) {
                due("at(0, " + week + ", 1), FENCE " + fence, x.at(0, week, LOTS), week < fence ? 1 : 0);
                due("at(1, " + week + ", 1), FENCE " + fence, x.at(1, week, LOTS), week < fence ? 2 : 0);
            }
        }
    }

    private static void fromFenceToTheLastWeek() {
        sentence("8, 9", "Planning", "then, week by week, from FENCE to 11:");
        LotFences x = one(10, 1, 0, 0);
        x.set(LOOK, 1);
        x.forecast(0, 0, 10);
        x.forecast(0, 8, 20);
        x.forecast(0, 11, 30);
        due("plan(), FENCE 2", x.plan(), 6);
        dueRow(x, 0, LOTS, 0, 0, 1, 0, 0, 0, 0, 0, 2, 0, 0, 3);
        x.set(FENCE, 0);
        due("plan(), FENCE 0", x.plan(), 6);
        dueRow(x, 0, LOTS, 1, 0, 0, 0, 0, 0, 0, 0, 2, 0, 0, 3);
        x.lots(0, 0, 0);
        x.set(FENCE, 8);
        due("plan(), FENCE 8", x.plan(), 6);
        dueRow(x, 0, LOTS, 0, 0, 0, 0, 0, 0, 0, 0, 3, 0, 0, 3);
    }

    /** The error is 10 behind the first week, and 20 units are left. */
    private static LotFences covered(int factor) {
        LotFences x = one(1, 1, 0, 100);
        x.set(LOOK, 1);
        x.actual(0, 80);
        x.set(FACTOR, 0);
        x.weeks(1);
        x.set(FACTOR, factor);
        return x;
    }

    private static void lessThanTheCover() {
        sentence("8, 9", "Planning", "the products whose projection behind this week (without lots in it) is less "
            + "than their cover are gone through,");
        due("20 units, a cover of 20", covered(200).plan(), 0);
        LotFences x = covered(200);
        x.forecast(0, 11, 1);
        due("19 units, a cover of 20", x.plan(), 1);
        due("20 units, a cover of 21", covered(210).plan(), 1);
        LotFences y = one(1, 1, 0, 7);
        y.forecast(0, 2, 7);
        due("0 units, no cover", y.plan(), 0);
        y.forecast(0, 3, 4);
        y.plan();
        dueRow(y, 0, LOTS, 0, 0, 0, 4, 0);
        y.forecast(0, 3, 0);
        y.forecast(0, 2, 8);
        due("-1 units, no cover", y.plan(), 1);
        y.lots(0, 2, 5);
        due("-1 units without 5 lots that were there", y.plan(), 1);
        LotFences z = ten();
        for (int product = 0; product < 10; product++) {
            z.forecast(product, 2, 100 * product + 1);
        }
        due("-1 units of each of ten products", z.plan(), 10);
        for (int product = 0; product < 10; product++) {
            due("at(" + product + ", 2, 1)", z.at(product, 2, LOTS), 1);
        }
    }

    /** One lot needs 4 hours, and 5 of a family; each product has one of its own, and there are hours for one of them. */
    private static LotFences rivals(int... forecasts) {
        LotFences x = new LotFences();
        x.set(HOURS, 9);
        x.set(OVERTIME, 0);
        x.set(LOOK, 1);
        for (int product = 0; product < forecasts.length; product++) {
            x.product(product, 1, 4, 0, 0);
            x.forecast(product, 2, forecasts[product]);
        }
        return x;
    }

    private static void leastProjectionFirst() {
        sentence("8, 9", "Planning", "those with the least such projection first,");
        LotFences x = rivals(1, 3, 2);
        due("plan()", x.plan(), 6);
        dueRow(x, 0, LOTS, 0, 0, 0, 0, 0, 1, 0, 0);
        dueRow(x, 1, LOTS, 0, 0, 1, 1, 0, 0, 1, 0);
        dueRow(x, 2, LOTS, 0, 0, 0, 0, 1, 0, 0, 1);
        LotFences y = rivals(1);
        y.set(FENCE, 8);
        y.product(1, 1, 4, 0, 100);
        y.actual(1, 80);
        y.forecast(0, 2, 0);
        y.forecast(0, 9, 1);
        y.set(FACTOR, 400);
        y.weeks(1);
        due("cover of the other one, with 20 units", y.ofProduct(1, COVER), 40);
        due("1 is missing of -1 units, 20 of 20 units", y.at(0, 8, LOTS), 1);
        due("the greater need waits", y.at(1, 8, LOTS), 0);
    }

    private static void lowestNumberFirst() {
        sentence("8, 9", "Planning", "of several the one with the lowest number.");
        LotFences x = rivals(2, 2, 2);
        due("plan()", x.plan(), 6);
        dueRow(x, 0, LOTS, 0, 0, 1, 0, 0, 1, 0, 0, 0);
        dueRow(x, 1, LOTS, 0, 0, 0, 1, 0, 0, 1, 0, 0);
        dueRow(x, 2, LOTS, 0, 0, 0, 0, 1, 0, 0, 1, 0);
        LotFences y = rivals(1, 2, 2);
        due("plan() with a first one that has more", y.plan(), 5);
        due("the lowest one of the two others", y.at(1, 2, LOTS), 1);
    }

    private static void asManyAsAreNeeded() {
        sentence("8, 9", "Planning", "A product wants as many lots as are needed, rounded up,");
        int[] units = {1, 9, 10, 11, 19, 20, 21, 1000};
        int[] lots = {1, 1, 1, 2, 2, 2, 3, 100};
        for (int k = 0; k < units.length; k++) {
            LotFences x = one(10, 1, 0, 0);
            x.forecast(0, 2, units[k]);
            due("plan() for " + units[k] + " units", x.plan(), lots[k]);
            due("lots for " + units[k] + " units", x.at(0, 2, LOTS), lots[k]);
        }
    }

    private static void coverAndNextWeeks() {
        sentence("8, 9", "Planning", "for what its projection is less than its cover, and the forecasts of the "
            + "next LOOK - 1 weeks (as far as there are such weeks) together.");
        int[] lots = {0, 1, 3, 7, 15, 31, 63};
        for (int look = 1; look <= 6; look++) {
            LotFences x = one(1, 1, 0, 0);
            x.set(LOOK, look);
            row(x, 0, 2, 1, 2, 4, 8, 16, 32, 64);
            x.plan();
            due("at(0, 2, 1), LOOK " + look, x.at(0, 2, LOTS), lots[look]);
        }
        LotFences y = one(1, 1, 0, 0);
        y.set(LOOK, 6);
        row(y, 0, 9, 1, 2, 4);
        due("LOOK 6 with two weeks left", y.plan(), 7);
        due("at(0, 9, 1)", y.at(0, 9, LOTS), 7);
        y.forecast(0, 9, 0);
        y.forecast(0, 10, 0);
        due("LOOK 6 with no week left", y.plan(), 4);
        due("at(0, 11, 1)", y.at(0, 11, LOTS), 4);
        LotFences z = one(10, 1, 0, 0);
        z.forecast(0, 2, 6);
        z.forecast(0, 3, 4);
        due("6 and 4 together, one lot", z.plan(), 1);
        z.forecast(0, 3, 5);
        due("6 and 5 together, two lots", z.plan(), 2);
        LotFences c = covered(220);
        c.forecast(0, 2, 3);
        c.forecast(0, 3, 4);
        c.set(LOOK, 2);
        c.plan();
        due("5 less than the cover, and the next 4", c.at(0, 2, LOTS), 22 - 17 + 4);
    }

    private static void hoursThatAreLeft() {
        sentence("8, 9", "Planning", "It gets as many of them as the hours of this week allow that are left of "
            + "HOURS + OVERTIME, with its setup,");
        LotFences x = one(1, 10, 3, 0);
        x.forecast(0, 2, 5);
        int[][] settings = {{38, 0}, {37, 0}, {30, 8}, {30, 7}, {0, 38}, {18, 0}, {17, 0}};
        int[] lots = {3, 2, 3, 2, 3, 1, 0};
        for (int k = 0; k < lots.length; k++) {
            x.set(HOURS, settings[k][0]);
            x.set(OVERTIME, settings[k][1]);
            x.plan();
            due("HOURS " + settings[k][0] + ", OVERTIME " + settings[k][1], x.at(0, 2, LOTS), lots[k]);
        }
        LotFences y = one(1, 10, 3, 0);
        y.product(1, 1, 4, 2, 0);
        y.forecast(0, 2, 3);
        y.forecast(1, 2, 2);
        y.set(OVERTIME, 0);
        y.set(HOURS, 53);
        y.plan();
        due("38 hours first", y.at(0, 2, LOTS), 3);
        due("2 + 5 + 8 of 15 that are left", y.at(1, 2, LOTS), 2);
        y.set(HOURS, 52);
        y.plan();
        due("2 + 5 + 4 of 14 that are left", y.at(1, 2, LOTS), 1);
        due("the next week has all its hours", y.at(1, 3, LOTS), 1);
    }

    private static void familyIsSetUpOnce() {
        sentence("8, 9", "Planning", "and that of its family if no product of it has lots in this week yet");
        LotFences x = one(1, 10, 3, 0);
        x.product(1, 1, 10, 1, 0);
        x.product(0, 1, 10, 2, 0);
        x.forecast(0, 2, 3);
        x.forecast(1, 2, 2);
        x.forecast(2, 2, 1);
        x.set(OVERTIME, 0);
        x.set(HOURS, 5 + 33 + 5 + 21 + 12);
        due("plan()", x.plan(), 6);
        due("just hours enough: the family 0 is set up", x.at(2, 2, LOTS), 1);
        x.set(HOURS, 5 + 33 + 5 + 21 + 11);
        x.plan();
        due("an hour too few", x.at(2, 2, LOTS), 0);
        due("in the next week the family is set up again", x.ofWeek(3, 0), 5 + 12);
        due("as a setup, too", x.ofWeek(3, 1), 2);
        LotFences y = one(1, 10, 20, 0);
        y.product(0, 1, 10, 0, 0);
        y.forecast(0, 2, 2);
        y.forecast(1, 2, 1);
        y.set(OVERTIME, 0);
        y.set(HOURS, 14);
        due("what gets none sets no family up: 14 are too few", y.plan(), 0);
        y.set(HOURS, 15);
        due("15 are not", y.plan(), 1);
        due("at(1, 2, 1)", y.at(1, 2, LOTS), 1);
    }

    private static void noneOrThousand() {
        sentence("8, 9", "Planning", "(none, if not even one lot can be made so; 1000 at most).");
        LotFences x = one(1, 10, 20, 0);
        x.product(1, 1, 3, 1, 0);
        x.forecast(0, 2, 9);
        x.forecast(1, 2, 3);
        x.set(OVERTIME, 0);
        x.set(HOURS, 34);
        due("34 of 35 hours: none", x.plan(), 3);
        due("the next one has all the hours", x.at(1, 2, LOTS), 3);
        due("no setup without lots", x.ofWeek(2, 0), 5 + 1 + 9);
        x.set(HOURS, 0);
        due("no hours: none", x.plan(), 0);
        LotFences y = one(1, 1, 0, 0);
        y.set(HOURS, 1000);
        y.set(OVERTIME, 500);
        row(y, 0, 2, 1000, 1);
        due("1001 are wanted", y.plan(), 1001);
        dueRow(y, 0, LOTS, 0, 0, 1000, 1);
        y.forecast(0, 3, 0);
        y.forecast(0, 1, 1000);
        due("2000 are wanted", y.plan(), 2000);
        dueRow(y, 0, LOTS, 0, 0, 1000, 1000, 0);
        y.forecast(0, 1, 0);
        due("1000 are wanted", y.plan(), 1000);
        dueRow(y, 0, LOTS, 0, 0, 1000, 0);
    }

    private static void frozen() {
        sentence("7, 8, 9, 13", "Planning", "The plans of the weeks ahead of FENCE are frozen: they stay as they "
            + "are, also if the hours of such a week are more than HOURS + OVERTIME since a setting changed.");
        LotFences x = one(10, 10, 5, 0);
        x.set(FENCE, 0);
        x.lots(0, 0, 11);
        x.lots(0, 1, 2);
        x.lots(0, 2, 4);
        x.set(FENCE, 2);
        x.set(HOURS, 20);
        x.set(OVERTIME, 0);
        due("hours of week 0", x.ofWeek(0, 0), 120);
        due("plan()", x.plan(), 13);
        dueRow(x, 0, LOTS, 11, 2, 0, 0);
        due("lots(0, 1, 0)", x.lots(0, 1, 0), NOT_POSSIBLE);
        due("lots(0, 2, 1)", x.lots(0, 2, 1), 0);
        due("week 1 is frozen", x.ofWeek(1, 4), 1);
        due("week 2 is not", x.ofWeek(2, 4), 0);
        x.weeks(1);
        due("all lots came", x.ofProduct(0, MADE), 110);
        due("the week 1 came up, it was frozen", x.at(0, 0, LOTS), 2);
        x.family(0, 50);
        x.weeks(1);
        due("its lots came, too", x.ofProduct(0, MADE), 130);
    }

    private static void lotsArrive() {
        sentence("9", "A week", "When a week passes: 1. the lots of the week 0 come into the stock of their products.");
        LotFences x = one(10, 1, 0, 3);
        x.product(1, 7, 1, 0, 0);
        x.product(1, 100, 1, 0, 0);
        x.set(FENCE, 0);
        x.lots(0, 0, 2);
        x.lots(1, 0, 1);
        x.lots(0, 1, 30);
        x.set(FENCE, 2);
        x.forecast(0, 0, 23);
        x.weeks(1);
        due("they are there before anything is shipped", x.ofProduct(0, SHIPPED), 23);
        due("stock", x.ofProduct(0, STOCK), 0);
        due("backlog", x.ofProduct(0, BACKLOG), 0);
        due("made", x.ofProduct(0, MADE), 20);
        due("stock of another one", x.ofProduct(1, STOCK), 7);
        due("made of one without lots", x.ofProduct(2, MADE), 0);
        due("stock of one without lots", x.ofProduct(2, STOCK), 0);
    }

    private static void toldOrForecast() {
        sentence("6, 9", "A week", "2. Of each product, what really comes in this week is the number that was told "
            + "for it, otherwise its forecast;");
        LotFences x = one(1, 1, 0, 5000);
        x.product(1, 1, 1, 0, 5000);
        x.set(FENCE, 8);
        row(x, 0, 0, 8, 9, 10, 11);
        row(x, 1, 0, 1000, 7);
        x.actual(0, 0);
        x.weeks(1);
        due("0 were told", x.ofProduct(0, CAME), 0);
        due("nothing was told of the other one", x.ofProduct(1, CAME), 1000);
        x.actual(1, 2000);
        x.weeks(1);
        due("the forecast is 9", x.ofProduct(0, CAME), 9);
        due("2000 were told", x.ofProduct(1, CAME), 3000);
        x.actual(0, 5);
        x.actual(0, NONE);
        x.weeks(1);
        due("the telling was taken back, the forecast is 10", x.ofProduct(0, CAME), 19);
        x.weeks(2);
        due("11, and then 0", x.ofProduct(0, CAME), 30);
    }

    private static void shipped() {
        sentence("9", "A week", "what comes and the backlog together are shipped, as far as there is stock; the "
            + "rest is the backlog then.");
        int[] told = {9, 10, 11, 0, 2000};
        int[] stock = {1, 0, 0, 10, 0};
        int[] backlog = {0, 0, 1, 0, 1990};
        for (int k = 0; k < told.length; k++) {
            LotFences x = one(1, 1, 0, 10);
            x.actual(0, told[k]);
            x.weeks(1);
            due("stock, " + told[k] + " came", x.ofProduct(0, STOCK), stock[k]);
            due("backlog, " + told[k] + " came", x.ofProduct(0, BACKLOG), backlog[k]);
            due("shipped, " + told[k] + " came", x.ofProduct(0, SHIPPED), 10 - stock[k]);
        }
        LotFences y = one(10, 1, 0, 0);
        y.set(FENCE, 8);
        y.actual(0, 25);
        y.weeks(1);
        due("all of 25 are late", y.ofProduct(0, BACKLOG), 25);
        y.set(FENCE, 0);
        y.lots(0, 0, 2);
        y.lots(0, 1, 1);
        y.set(FENCE, 8);
        y.actual(0, 3);
        y.weeks(1);
        due("20 of 28 are shipped", y.ofProduct(0, BACKLOG), 8);
        y.actual(0, 2);
        y.weeks(1);
        due("10 of 10 are shipped", y.ofProduct(0, BACKLOG), 0);
        due("nothing is left", y.ofProduct(0, STOCK), 0);
        due("shipped in all", y.ofProduct(0, SHIPPED), 30);
    }

    private static void error() {
        sentence("9", "A week", "3. The error of each product becomes (7 * error + the difference of what came and "
            + "the forecast, as an amount) / 8, rounded up.");
        int[] told = {10, 11, 18, 19, 9, 2, 1, 0, 2000};
        int[] errors = {0, 1, 1, 2, 1, 1, 2, 2, 249};
        for (int k = 0; k < told.length; k++) {
            LotFences x = one(1, 1, 0, 0);
            x.forecast(0, 0, 10);
            x.forecast(0, 1, 1000);
            x.actual(0, told[k]);
            x.weeks(1);
            due("error, " + told[k] + " came for 10", x.ofProduct(0, ERROR), errors[k]);
        }
        LotFences y = one(1, 1, 0, 0);
        y.actual(0, 64);
        y.weeks(1);
        int[] next = {8, 7, 7, 7};
        for (int week = 0; week < next.length; week++) {
            due("error behind week " + week, y.ofProduct(0, ERROR), next[week]);
            y.weeks(1);
        }
        y.actual(0, 9);
        y.weeks(1);
        due("(49 + 9) / 8", y.ofProduct(0, ERROR), 8);
    }

    private static void costs() {
        sentence("9, 14", "A week", "4. The costs become greater by SETUP for each setup of this week, OVER for "
            + "each hour of overtime, HOLD for each unit in stock, LATE for each unit of backlog.");
        LotFences x = one(10, 4, 2, 5);
        x.set(FENCE, 0);
        x.product(1, 6, 3, 1, 40);
        x.forecast(0, 0, 50);
        x.forecast(1, 0, 30);
        x.lots(0, 0, 3);
        x.lots(1, 0, 1);
        x.set(HOURS, 20);
        x.weeks(1);
        due("4 setups, 28 hours of 20, 16 in stock, 15 late", x.count(4), 4 * 50 + 8 * 3 + 16 + 15 * 5);
        due("setups so far", x.count(2), 4);
        due("overtime so far", x.count(3), 8);
        LotFences y = one(10, 10, 0, 0);
        y.set(FENCE, 0);
        y.set(HOLD, 0);
        y.set(SETUP, 0);
        y.set(OVER, 100);
        y.set(OVERTIME, 0);
        y.set(HOURS, 15);
        y.lots(0, 0, 1);
        y.weeks(1);
        due("15 hours of 15", y.count(4), 0);
        y.lots(0, 0, 1);
        y.set(HOURS, 14);
        y.weeks(1);
        due("15 hours of 14", y.count(4), 100);
        y.weeks(1);
        due("nothing is made", y.count(4), 100);
        y.set(HOLD, 1);
        y.weeks(1);
        due("20 in stock", y.count(4), 120);
        y.set(LATE, 0);
        y.actual(0, 25);
        y.weeks(1);
        due("5 late that cost nothing", y.count(4), 120);
    }

    private static void weeksMoveUp() {
        sentence("9", "A week", "5. Each week k becomes the week k - 1 (forecasts, plans);");
        LotFences x = one(1, 1, 0, 10000);
        x.product(1, 1, 1, 0, 10000);
        x.set(FENCE, 0);
        row(x, 0, 0, 1, 2, 3, 4, 5, 6, 7, 8, 9, 10, 11, 12);
        row(x, 1, 0, 40);
        for (int week = 0; week < 12; week++) {
            x.lots(0, week, 20 + week);
        }
        x.lots(1, 8, 3);
        x.set(FENCE, 8);
        x.weeks(1);
        dueRow(x, 0, FORECAST, 2, 3, 4, 5, 6, 7, 8, 9, 10, 11, 12);
        dueRow(x, 0, LOTS, 21, 22, 23, 24, 25, 26, 27, 28);
        dueRow(x, 1, FORECAST, 0, 0);
        dueRow(x, 1, LOTS, 0, 0, 0, 0, 0, 0, 0, 3);
        x.weeks(7);
        due("at(0, 0, 0)", x.at(0, 0, FORECAST), 9);
        due("at(0, 0, 1)", x.at(0, 0, LOTS), 28);
        due("at(1, 0, 1)", x.at(1, 0, LOTS), 3);
    }

    private static void lastWeek() {
        sentence("9", "A week", "the week 11 keeps the forecast that it had (so the week 10 has it, too), and has "
            + "no lots;");
        LotFences x = one(1, 1, 0, 10000);
        x.set(FENCE, 0);
        x.forecast(0, 10, 5);
        x.forecast(0, 11, 7);
        x.lots(0, 11, 3);
        x.set(FENCE, 8);
        x.weeks(1);
        due("at(0, 9, 0)", x.at(0, 9, FORECAST), 5);
        due("at(0, 10, 0)", x.at(0, 10, FORECAST), 7);
        due("at(0, 11, 0)", x.at(0, 11, FORECAST), 7);
        due("at(0, 11, 1)", x.at(0, 11, LOTS), 0);
        x.weeks(30);
        dueRow(x, 0, FORECAST, 7, 7, 7, 7, 7, 7, 7, 7, 7, 7, 7, 7);
        dueRow(x, 0, LOTS, 0, 0, 0, 0, 0, 0, 0, 0, 0, 0, 0, 0);
        x.forecast(0, 11, 0);
        x.weeks(1);
        due("at(0, 10, 0), 0 are kept, too", x.at(0, 10, FORECAST), 0);
        due("at(0, 11, 0), 0 are kept, too", x.at(0, 11, FORECAST), 0);
    }

    private static void nothingTold() {
        sentence("6, 9, 10", "A week", "no number is told for the new week 0.");
        LotFences x = one(1, 1, 0, 100);
        x.actual(0, 9);
        due("told", x.ofProduct(0, TOLD), 9);
        x.weeks(1);
        due("told behind the week", x.ofProduct(0, TOLD), NONE);
        due("actual(0, 3)", x.actual(0, 3), NONE);
        x.weeks(2);
        due("what came in all", x.ofProduct(0, CAME), 12);
    }

    private static void plannedAnew() {
        sentence("9", "A week", "6. All is planned anew from FENCE on.");
        LotFences x = one(10, 1, 0, 0);
        x.set(LOOK, 1);
        x.set(FENCE, 1);
        x.forecast(0, 3, 40);
        x.lots(0, 1, 2);
        x.lots(0, 9, 7);
        x.weeks(1);
        dueRow(x, 0, LOTS, 2, 0, 2, 0, 0, 0, 0, 0, 0, 0, 0, 0);
        x.forecast(0, 2, 50);
        x.weeks(1);
        dueRow(x, 0, LOTS, 0, 3, 0);
        x.set(FENCE, 0);
        x.forecast(0, 1, 15);
        x.weeks(1);
        due("FENCE 0: the week 0 is planned anew, too; 20 - 15 are there", x.at(0, 0, LOTS), 0);
        LotFences y = one(10, 1, 0, 0);
        y.set(LOOK, 1);
        y.set(FENCE, 1);
        y.forecast(0, 3, 40);
        y.weeks(4);
        due("each of four weeks was planned anew", y.ofProduct(0, MADE), 40);
        due("nothing is late", y.ofProduct(0, BACKLOG), 0);
    }
}
