/** The promises 15 to 20: firstShort, lasts, leastHours, costs, bestFence, roomFor. */
final class WhatIfSentences extends Sentences {
    private static final int[] NO_PRODUCTS = {-1, 1, 9, 10, LEAST_INT, MOST_INT};

    static void all() {
        firstShort();
        firstShortReturns();
        firstShortOfNothing();
        neverShort();
        lasts();
        lastsAsLong();
        lastsReturns();
        lastsOfNothing();
        leastHours();
        leastHoursServe();
        leastHoursReturns();
        noHours();
        costs();
        costsFence();
        costsWeeks();
        costsReturns();
        costsOutOfRange();
        bestFence();
        greatestFence();
        bestFenceWeeks();
        bestFenceReturns();
        bestFenceOutOfRange();
        roomFor();
        roomReturns();
        roomAtMost();
        noRoom();
        roomOfNothing();
    }

    private static void firstShort() {
        sentence(15, "Finds the first week behind which the projection of a product is below 0.");
        LotFences x = one(10, 1, 0, 10);
        x.forecast(0, 3, 10);
        due("0 is not below 0", x.firstShort(0), NONE);
        x.forecast(0, 5, 1);
        due("-1 behind week 5", x.firstShort(0), 5);
        x.forecast(0, 7, 500);
        due("the first one", x.firstShort(0), 5);
        x.lots(0, 6, 1);
        due("lots that come too late", x.firstShort(0), 5);
        x.lots(0, 5, 1);
        due("lots of the same week", x.firstShort(0), 7);
        x.actual(0, 2000);
        due("what was told does not matter", x.firstShort(0), 7);
        due("nothing is planned", x.count(5), 2);
    }

    private static void firstShortReturns() {
        sentence(15, "Returns the week;");
        for (int week = 0; week < 12; week++) {
            LotFences x = one(10, 1, 0, 10);
            x.forecast(0, week, 11);
            due("11 of 10 units in week " + week, x.firstShort(0), week);
        }
        LotFences x = one(10, 1, 0, 0);
        x.set(FENCE, 8);
        x.actual(0, 1);
        x.weeks(1);
        due("a backlog of 1", x.firstShort(0), 0);
    }

    private static void firstShortOfNothing() {
        sentence(15, "NO_SUCH if there is no such product;");
        due("firstShort(0) without products", new LotFences().firstShort(0), NO_SUCH);
        LotFences x = one(1, 1, 0, 0);
        for (int product : NO_PRODUCTS) {
            due("firstShort(" + product + ")", x.firstShort(product), NO_SUCH);
        }
    }

    private static void neverShort() {
        sentence(15, "NONE if there is none.");
        LotFences x = one(10, 1, 0, 12);
        due("no forecasts", x.firstShort(0), NONE);
        row(x, 0, 0, 1, 1, 1, 1, 1, 1, 1, 1, 1, 1, 1, 1);
        due("0 behind the last week", x.firstShort(0), NONE);
        x.forecast(0, 11, 2);
        due("-1 behind the last week", x.firstShort(0), 11);
    }

    private static void lasts() {
        sentence(16, "Tells for how many weeks, from the present one on, the stock of a product less its backlog "
            + "does, if no lots come:");
        LotFences x = one(10, 1, 0, 10);
        x.forecast(0, 3, 11);
        due("11 of 10 units in week 3", x.lasts(0), 3);
        x.lots(0, 2, 5);
        due("lots do not come", x.lasts(0), 3);
        x.actual(0, 2000);
        due("what was told does not matter", x.lasts(0), 3);
        LotFences y = one(10, 1, 0, 10);
        y.set(FENCE, 8);
        y.actual(0, 11);
        y.weeks(1);
        due("a backlog of 1, nothing is forecast", y.lasts(0), 0);
        y.undo();
        y.actual(0, 10);
        y.weeks(1);
        due("no backlog, nothing is forecast", y.lasts(0), 12);
    }

    private static void lastsAsLong() {
        sentence(16, "as long as it is at least all forecasts of these weeks together.");
        LotFences x = one(1, 1, 0, 10);
        row(x, 0, 0, 4, 3, 3, 1);
        due("10 of 10 units in three weeks", x.lasts(0), 3);
        x.forecast(0, 3, 0);
        x.forecast(0, 4, 1);
        due("a week without a forecast more", x.lasts(0), 4);
        x.forecast(0, 2, 4);
        due("11 of 10 units in three weeks", x.lasts(0), 2);
        x.forecast(0, 0, 10);
        due("10 of 10 units in the present week", x.lasts(0), 1);
        x.forecast(0, 0, 11);
        due("11 of 10 units in the present week", x.lasts(0), 0);
    }

    private static void lastsReturns() {
        sentence(16, "Returns the weeks, 0 to 12;");
        for (int week = 0; week < 12; week++) {
            LotFences x = one(1, 1, 0, 10);
            x.forecast(0, week, 11);
            due("11 of 10 units in week " + week, x.lasts(0), week);
            x.forecast(0, week, 10);
            due("10 of 10 units in week " + week, x.lasts(0), 12);
        }
        due("no stock, no forecasts", one(1, 1, 0, 0).lasts(0), 12);
    }

    private static void lastsOfNothing() {
        sentence(16, "NO_SUCH if there is no such product.");
        due("lasts(0) without products", new LotFences().lasts(0), NO_SUCH);
        LotFences x = one(1, 1, 0, 0);
        for (int product : NO_PRODUCTS) {
            due("lasts(" + product + ")", x.lasts(product), NO_SUCH);
        }
    }

    /** One unit is an hour, and a setup of the family 5; nothing can be made ahead of week 2. */
    private static LotFences hourly(int units) {
        LotFences x = one(1, 1, 0, 0);
        x.set(LOOK, 1);
        x.set(OVERTIME, 0);
        x.forecast(0, 2, units);
        return x;
    }

    private static void leastHours() {
        sentence(17, "Finds the least HOURS, as a multiple of 10,");
        int[] units = {0, 1, 5, 6, 15, 16, 90};
        int[] hours = {0, 10, 10, 20, 20, 30, 100};
        for (int k = 0; k < units.length; k++) {
            due(units[k] + " units", hourly(units[k]).leastHours(), hours[k]);
        }
        LotFences x = hourly(16);
        x.set(OVERTIME, 1);
        due("an hour of overtime", x.leastHours(), 20);
        x.set(OVERTIME, 21);
        due("overtime does", x.leastHours(), 0);
        x.set(HOURS, 3);
        due("HOURS as they are do not matter", x.leastHours(), 0);
        due("HOURS stay", x.count(10), 3);
        due("no products", new LotFences().leastHours(), 0);
    }

    private static void leastHoursServe() {
        sentence(17, "with which, if all was planned anew then, no projection behind a week from FENCE on would be "
            + "below 0.");
        LotFences x = hourly(15);
        x.set(HOURS, 100);
        x.lots(0, 2, 15);
        due("the plan that there is does not matter", x.leastHours(), 20);
        due("nor is it changed", x.at(0, 2, LOTS), 15);
        LotFences y = hourly(0);
        y.set(FENCE, 3);
        y.forecast(0, 2, 5);
        due("short ahead of the fence, served behind it", y.leastHours(), 10);
        y.set(FENCE, 2);
        y.forecast(0, 11, 16);
        due("short in the last week", y.leastHours(), 30);
        y.product(1, 1, 1, 0, 0);
        y.forecast(1, 11, 10);
        due("short in another product, 5 + 16 + 5 + 10", y.leastHours(), 40);
        LotFences z = hourly(0);
        z.set(FENCE, 0);
        z.lots(0, 1, 8);
        z.set(FENCE, 2);
        z.forecast(0, 2, 8);
        due("frozen lots stay", z.leastHours(), 0);
        z.forecast(0, 2, 9);
        due("one unit more", z.leastHours(), 10);
        LotFences w = hourly(20);
        w.set(LOOK, 2);
        w.forecast(0, 3, 20);
        due("20 units with 25 hours; in the next week 20 again", w.leastHours(), 30);
    }

    private static void leastHoursReturns() {
        sentence(17, "Returns the hours, 1000 at most;");
        LotFences x = hourly(985);
        due("990 hours", x.leastHours(), 990);
        x.forecast(0, 2, 986);
        due("991 hours", x.leastHours(), 1000);
        x.forecast(0, 2, 995);
        due("1000 hours", x.leastHours(), 1000);
        x.forecast(0, 2, 996);
        due("1001 hours", x.leastHours(), NONE);
    }

    private static void noHours() {
        sentence(17, "NONE if there are none.");
        LotFences x = hourly(1000);
        due("1005 hours", x.leastHours(), NONE);
        x.set(OVERTIME, 5);
        due("1005 hours with 5 of overtime", x.leastHours(), 1000);
        x.forecast(0, 1, 1);
        due("1001 lots in a week", x.leastHours(), NONE);
    }

    /** 3 units are missing in week 1, if it has no lots. */
    private static LotFences costly() {
        LotFences x = one(10, 4, 2, 5);
        x.forecast(0, 1, 8);
        x.forecast(0, 4, 20);
        return x;
    }

    private static void costs() {
        sentence(18, "Tells by how much the costs would become greater in the next weeks, if FENCE was another "
            + "one, all was planned anew with it at once, and what comes was as forecast (also in this week, "
            + "whatever was told).");
        LotFences x = costly();
        due("FENCE 0: a lot in week 1 at once", x.costs(0, 2), 5 + 100 + 7);
        due("FENCE 2: 3 are late in week 1, a lot in week 2", x.costs(2, 3), 5 + 15 + 100 + 7);
        due("FENCE 8: they stay late, lots in week 8", x.costs(8, 12), 5 + 15 * 3 + 115 * 4 + 100 + 7 * 4);
        x.actual(0, 2000);
        due("2000 were told", x.costs(0, 2), 5 + 100 + 7);
        due("told stays", x.ofProduct(0, TOLD), 2000);
        due("FENCE stays", x.count(12), 2);
        due("costs so far stay", x.count(4), 0);
        LotFences y = costly();
        y.weeks(1);
        due("costs so far", y.count(4), 5);
        due("by how much they become greater", y.costs(0, 1), 107);
        LotFences z = costly();
        z.lots(0, 3, 4);
        due("lots behind the other fence are planned anew", z.costs(2, 4), 5 + 15 + 100 + 7 + 7);
        due("lots ahead of it stay", z.costs(4, 4), 5 + 15 + 15 + 100 + 37);
        LotFences w = one(1, 1, 0, 0);
        w.forecast(0, 11, 10);
        due("each week all is planned anew: in the last one for a next one, too", w.costs(2, 12), 100 + 10);
        LotFences v = one(1, 10, 0, 0);
        v.forecast(0, 0, 11);
        v.set(OVER, 100);
        due("overtime of 15 hours", v.costs(0, 1), 100 + 1500);
        v.set(LATE, 100);
        due("11 are late", v.costs(1, 1), 1100);
    }

    private static void costsFence() {
        sentence(18, "fence: 0 to 8");
        LotFences x = costly();
        due("costs(-1, 1)", x.costs(-1, 1), BAD_VALUE);
        due("costs(0, 5)", x.costs(0, 5), 5 + 100 + 7 * 3 + 100 + 7);
        due("costs(8, 5)", x.costs(8, 5), 5 + 15 * 3 + 115);
        due("costs(9, 1)", x.costs(9, 1), BAD_VALUE);
    }

    private static void costsWeeks() {
        sentence(18, "weeks: 1 to 12");
        LotFences x = costly();
        due("costs(0, 0)", x.costs(0, 0), BAD_VALUE);
        due("costs(0, 1)", x.costs(0, 1), 5);
        due("costs(0, 12)", x.costs(0, 12), 5 + 100 + 7 * 3 + 100 + 7 * 8);
        due("costs(0, 13)", x.costs(0, 13), BAD_VALUE);
    }

    private static void costsReturns() {
        sentence(18, "Returns the costs;");
        due("without products", new LotFences().costs(0, 12), 0);
        LotFences x = ten();
        for (int cost = SETUP; cost <= OVER; cost++) {
            x.set(cost, 0);
        }
        due("nothing costs anything", x.costs(4, 12), 0);
        x.set(HOLD, 100);
        due("4500 units for 12 weeks at 100", x.costs(8, 12), 12 * 450000);
        due("nothing changes", x.count(4), 0);
        due("no week passes", x.count(0), 0);
    }

    private static void costsOutOfRange() {
        sentence(18, "BAD_VALUE if fence or weeks is out of range.");
        LotFences x = costly();
        for (int fence : new int[] {-1, 9, LEAST_INT, MOST_INT}) {
            due("costs(" + fence + ", 1)", x.costs(fence, 1), BAD_VALUE);
        }
        for (int weeks : new int[] {-1, 0, 13, LEAST_INT, MOST_INT}) {
            due("costs(0, " + weeks + ")", x.costs(0, weeks), BAD_VALUE);
            due("costs(9, " + weeks + ")", x.costs(9, weeks), BAD_VALUE);
        }
    }

    /** Units for the week 1 are dear to keep if they are made in the week 0; those made later are late. */
    private static LotFences between() {
        LotFences x = one(1, 1, 0, 0);
        x.set(SETUP, 0);
        x.set(FACTOR, 0);
        x.set(HOLD, 100);
        row(x, 0, 0, 1, 9);
        return x;
    }

    private static void bestFence() {
        sentence(19, "Finds the fence with which costs() of some weeks are the least,");
        LotFences x = between();
        due("costs(0, 2), 9 are kept", x.costs(0, 2), 900);
        due("costs(1, 2), 1 is late", x.costs(1, 2), 5);
        due("costs(2, 2), 1 and then 10 are late", x.costs(2, 2), 55);
        due("bestFence(2)", x.bestFence(2), 1);
        LotFences y = costly();
        y.set(LATE, 100);
        due("late units are dear", y.bestFence(2), 1);
        due("FENCE stays", y.count(12), 2);
        y.actual(0, 2000);
        due("what was told does not matter", y.bestFence(2), 1);
    }

    private static void greatestFence() {
        sentence(19, "of several the greatest one.");
        due("all alike", new LotFences().bestFence(12), 8);
        LotFences x = costly();
        due("all alike in the first week", x.bestFence(1), 8);
        x.set(LATE, 100);
        due("costs(0, 2) and costs(1, 2)", x.costs(0, 2) - x.costs(1, 2), 0);
        due("the greater one of both", x.bestFence(2), 1);
    }

    private static void bestFenceWeeks() {
        sentence(19, "weeks: 1 to 12");
        LotFences x = one(1, 1, 0, 0);
        x.set(LATE, 100);
        x.forecast(0, 7, 9);
        due("bestFence(0)", x.bestFence(0), BAD_VALUE);
        due("bestFence(1)", x.bestFence(1), 8);
        due("bestFence(7)", x.bestFence(7), 8);
        due("bestFence(8)", x.bestFence(8), 7);
        due("bestFence(12)", x.bestFence(12), 7);
        due("bestFence(13)", x.bestFence(13), BAD_VALUE);
    }

    private static void bestFenceReturns() {
        sentence(19, "Returns the fence;");
        for (int week = 0; week < 9; week++) {
            LotFences x = one(1, 1, 0, 0);
            x.set(LATE, 100);
            x.forecast(0, week, 9);
            due("9 units in week " + week, x.bestFence(week + 1), week);
        }
    }

    private static void bestFenceOutOfRange() {
        sentence(19, "BAD_VALUE if weeks is out of range.");
        LotFences x = costly();
        for (int weeks : new int[] {-1, 0, 13, LEAST_INT, MOST_INT}) {
            due("bestFence(" + weeks + ")", x.bestFence(weeks), BAD_VALUE);
        }
    }

    private static void roomFor() {
        sentence(20, "Tells how many more lots of a product could be made in a week, so that its hours are HOURS + "
            + "OVERTIME at most.");
        LotFences x = one(1, 10, 3, 0);
        x.product(0, 1, 4, 1, 0);
        x.product(1, 1, 50, 20, 0);
        int[] hours = {118, 117, 19, 18, 17, 0};
        int[] room = {11, 10, 1, 1, 0, 0};
        x.set(OVERTIME, 0);
        for (int k = 0; k < hours.length; k++) {
            x.set(HOURS, hours[k]);
            due("lots of 10 hours, 8 for setups, " + hours[k] + " hours", x.roomFor(0, 2), room[k]);
        }
        x.set(OVERTIME, 118);
        due("overtime alone", x.roomFor(0, 2), 11);
        x.lots(0, 2, 8);
        due("30 of 118 hours are left", x.roomFor(0, 2), 3);
        due("30, and 1 for a setup; the family is set up", x.roomFor(1, 2), 7);
        due("30, and 25 for setups", x.roomFor(2, 2), 0);
        due("a week without lots", x.roomFor(2, 3), 1);
        due("a frozen week", x.roomFor(2, 0), 1);
        due("the last week", x.roomFor(0, 11), 11);
        due("nothing is made", x.count(5), 8);
        due("as many are possible", x.lots(0, 2, 11), 8);
        due("one more is not", x.lots(0, 2, 12), NOT_POSSIBLE);
    }

    private static void roomReturns() {
        sentence(20, "Returns the lots,");
        LotFences x = one(1, 7, 3, 0);
        x.product(2, 1, 6, 2, 0);
        for (int lots = 0; lots <= 16; lots++) {
            x.lots(0, 5, lots);
            due("behind " + lots + " lots of it", x.roomFor(0, 5), 16 - lots);
            due("of another one behind " + lots, x.roomFor(1, 5), Math.max(0, (120 - x.ofWeek(5, 0) - 7) / 6));
        }
    }

    private static void roomAtMost() {
        sentence(20, "1000 at most together with those that are planned");
        LotFences x = one(1, 1, 0, 0);
        x.set(OVERTIME, 500);
        x.set(HOURS, 504);
        due("999 hours are left", x.roomFor(0, 4), 999);
        x.set(HOURS, 505);
        due("1000 hours are left", x.roomFor(0, 4), 1000);
        x.set(HOURS, 506);
        due("1001 hours are left", x.roomFor(0, 4), 1000);
        x.set(HOURS, 1000);
        int[] lots = {1, 400, 999, 1000};
        for (int planned : lots) {
            x.lots(0, 4, planned);
            due("behind " + planned + " lots", x.roomFor(0, 4), 1000 - planned);
        }
        due("another week", x.roomFor(0, 5), 1000);
    }

    private static void noRoom() {
        sentence(20, "(0 if the hours are more already);");
        LotFences x = one(1, 10, 3, 0);
        x.product(1, 1, 1, 0, 0);
        x.lots(0, 2, 11);
        x.set(OVERTIME, 18);
        due("as many hours as there are", x.roomFor(0, 2), 0);
        for (int overtime : new int[] {17, 8, 0}) {
            x.set(OVERTIME, overtime);
            due("more hours: of the same one", x.roomFor(0, 2), 0);
            due("more hours: of another one", x.roomFor(1, 2), 0);
        }
        x.set(HOURS, 0);
        due("118 hours of 0", x.roomFor(0, 2), 0);
        due("0 hours of 0", x.roomFor(0, 3), 0);
        x.family(1, 0);
        x.set(OVERTIME, 500);
        x.lots(1, 4, 499);
        x.set(OVERTIME, 498);
        due("an hour more than there are", x.roomFor(1, 4), 0);
        x.set(OVERTIME, 500);
        due("an hour less", x.roomFor(1, 4), 1);
    }

    private static void roomOfNothing() {
        sentence(20, "NO_SUCH if there is no such product or week.");
        due("roomFor(0, 0) without products", new LotFences().roomFor(0, 0), NO_SUCH);
        LotFences x = one(1, 1, 0, 0);
        for (int product : NO_PRODUCTS) {
            due("roomFor(" + product + ", 0)", x.roomFor(product, 0), NO_SUCH);
        }
        for (int week : new int[] {-1, 12, LEAST_INT, MOST_INT}) {
            due("roomFor(0, " + week + ")", x.roomFor(0, week), NO_SUCH);
        }
        due("roomFor(0, 0)", x.roomFor(0, 0), 115);
        due("roomFor(0, 11)", x.roomFor(0, 11), 115);
    }
}
