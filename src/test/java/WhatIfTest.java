/** Promises 15 to 20: firstShort, lasts, leastHours, costs, bestFence, roomFor. */
public final class WhatIfTest {
    private static final int[] WILD = {-1, -2, Integer.MIN_VALUE, Integer.MAX_VALUE};

    public static void main(String[] args) {
        firstShort();
        lasts();
        leastHours();
        leastHoursIsNoThreshold();
        costs();
        costsPlanAtOnce();
        costsPlanEachWeek();
        costsForgetWhatWasTold();
        bestFence();
        bestFenceInTheMiddle();
        roomFor();
        nothingChanges();
        Due.end();
    }

    private static void due(String call, long got, long want) {
        Due.due(call, got, want);
    }

    private static void firstShort() {
        LotFences x = new LotFences();
        due("15: firstShort(0) without products", x.firstShort(0), -1);
        x.product(0, 10, 1, 0, 10);
        due("15: never", x.firstShort(0), -6);
        x.forecast(0, 3, 10);
        due("15: 0 is not below 0", x.firstShort(0), -6);
        x.forecast(0, 11, 1);
        due("15: in the last week", x.firstShort(0), 11);
        x.forecast(0, 3, 11);
        due("15: in week 3", x.firstShort(0), 3);
        x.lots(0, 4, 1);
        due("15: lots come too late", x.firstShort(0), 3);
        x.lots(0, 3, 1);
        due("15: lots of the same week are in time", x.firstShort(0), -6);
        x.forecast(0, 0, 11);
        due("15: in week 0", x.firstShort(0), 0);
        due("15: firstShort(1)", x.firstShort(1), -1);
        for (int wild : WILD) {
            due("15: firstShort(" + wild + ")", x.firstShort(wild), -1);
        }
    }

    private static void lasts() {
        LotFences x = new LotFences();
        due("16: lasts(0) without products", x.lasts(0), -1);
        x.product(0, 10, 1, 0, 10);
        due("16: for ever", x.lasts(0), 12);
        x.forecast(0, 3, 10);
        due("16: just", x.lasts(0), 12);
        x.forecast(0, 3, 11);
        due("16: 3 weeks", x.lasts(0), 3);
        x.lots(0, 3, 5);
        x.lots(0, 2, 5);
        due("16: lots do not count", x.lasts(0), 3);
        x.forecast(0, 3, 10);
        x.forecast(0, 11, 1);
        due("16: 11 weeks", x.lasts(0), 11);
        x.forecast(0, 0, 11);
        due("16: 0 weeks", x.lasts(0), 0);
        x.actual(0, 0);
        due("16: what was told does not count", x.lasts(0), 0);
        due("16: lasts(1)", x.lasts(1), -1);
        for (int wild : WILD) {
            due("16: lasts(" + wild + ")", x.lasts(wild), -1);
        }
        x.product(0, 10, 1, 0, 0);
        x.actual(1, 1);
        x.weeks(1);
        due("16: backlog", x.lasts(1), 0);
    }

    private static void leastHours() {
        LotFences x = new LotFences();
        due("17: leastHours() without products", x.leastHours(), 0);
        x.product(0, 10, 10, 5, 0);
        due("17: nothing is needed", x.leastHours(), 0);
        x.forecast(0, 5, 30);
        due("17: 35 hours once, or 20 and 20 and 20 before", x.leastHours(), 20);
        x.set(3, 1);
        due("17: 5 + 5 + 30 less 20 of overtime", x.leastHours(), 20);
        x.set(1, 19);
        due("17: 40 less 19, as a multiple of 10", x.leastHours(), 30);
        x.set(1, 0);
        due("17: 40 less 0", x.leastHours(), 40);
        x.set(1, 40);
        due("17: overtime alone", x.leastHours(), 0);
        x.forecast(0, 1, 1);
        due("17: what is short ahead of the fence does not count", x.leastHours(), 0);
        x.set(1, 0);
        x.forecast(0, 5, 1000);
        due("17: a lot at once, and 100 lots", x.leastHours(), -6);
        x.forecast(0, 5, 990);
        due("17: a lot at once, and 99 lots", x.leastHours(), 1000);
        x.set(0, 7);
        due("17: HOURS as they are do not matter", x.leastHours(), 1000);
        due("17: HOURS stay", x.count(10), 7);
        x.set(2, 6);
        due("17: only weeks from FENCE on; 991 are late", x.leastHours(), -6);
    }

    /** With 20 hours the first product takes too much of them, and the second one comes too late. */
    private static void leastHoursIsNoThreshold() {
        LotFences x = new LotFences();
        x.set(1, 0);
        x.set(2, 0);
        x.family(0, 0);
        x.product(0, 1, 9, 10, 0);
        x.product(0, 1, 10, 0, 0);
        x.forecast(0, 0, 0);
        x.forecast(1, 0, 1);
        due("17: leastHours()", x.leastHours(), 10);
        x.forecast(0, 1, 1);
        due("17: leastHours(), a lot for 19 hours in week 1", x.leastHours(), 20);
    }

    private static void costs() {
        LotFences x = new LotFences();
        x.product(0, 10, 4, 2, 5);
        x.forecast(0, 1, 8);
        x.forecast(0, 4, 20);
        // FENCE 0: week 1 makes one lot (at the beginning of it 5 - 8 = -3), so 5, 7, 7, 7 and in week 4 two lots.
        due("18: costs(0, 1)", x.costs(0, 1), 5);
        due("18: costs(0, 2)", x.costs(0, 2), 5 + 100 + 7);
        due("18: costs(0, 4)", x.costs(0, 4), 5 + 100 + 7 + 7 + 7);
        due("18: costs(0, 5)", x.costs(0, 5), 5 + 100 + 7 + 7 + 7 + 100 + 7);
        // FENCE 2: the lot comes in week 2; meanwhile 3 units are late.
        due("18: costs(2, 3)", x.costs(2, 3), 5 + 3 * 5 + 100 + 7);
        due("18: costs(8, 12)", x.costs(8, 12), 5 + 15 * 3 + 115 * 4 + 100 + 7 * 4);
        due("18: costs(8, 1)", x.costs(8, 1), 5);
        due("18: costs(-1, 1)", x.costs(-1, 1), -2);
        due("18: costs(9, 1)", x.costs(9, 1), -2);
        due("18: costs(0, 0)", x.costs(0, 0), -2);
        due("18: costs(0, 13)", x.costs(0, 13), -2);
        for (int wild : WILD) {
            due("18: costs(" + wild + ", 1)", x.costs(wild, 1), -2);
            due("18: costs(0, " + wild + ")", x.costs(0, wild), -2);
        }
        x.weeks(1);
        due("18: less by what was so far", x.costs(0, 1), 100 + 7);
        due("18: FENCE stays", x.count(12), 2);
        due("18: costs so far stay", x.count(4), 5);
    }

    private static void costsPlanAtOnce() {
        LotFences x = new LotFences();
        x.set(6, 7);
        x.product(0, 10, 4, 2, 5);
        x.forecast(0, 0, 8);
        due("18: FENCE 0 makes a lot at once", x.costs(0, 1), 100 + 7 * 7);
        due("18: FENCE 1 is late", x.costs(1, 1), 15);
        x.lots(0, 2, 4);
        due("18: FENCE 8 keeps what is planned", x.costs(8, 3), 15 + 15 + 100 + 37 * 7);
        due("18: FENCE 2 plans it anew", x.costs(2, 3), 15 + 15 + 100 + 7 * 7);
    }

    /** The last week has no next one to look at, but has one when it is planned anew in a later week. */
    private static void costsPlanEachWeek() {
        LotFences x = new LotFences();
        x.product(0, 1, 1, 0, 0);
        x.forecast(0, 11, 10);
        due("18: 10 lots are planned now", x.plan(), 10);
        due("18: costs(2, 11)", x.costs(2, 11), 0);
        due("18: costs(2, 12), 20 lots", x.costs(2, 12), 100 + 10);
    }

    private static void costsForgetWhatWasTold() {
        LotFences x = new LotFences();
        x.product(0, 1, 1, 0, 100);
        x.forecast(0, 0, 10);
        x.actual(0, 60);
        due("18: costs(2, 1) as forecast", x.costs(2, 1), 90);
        due("18: costs(2, 2), no error either", x.costs(2, 2), 180);
        due("18: told stays", x.ofProduct(0, 8), 60);
        x.weeks(1);
        due("18: costs of what was told", x.count(4), 40);
    }

    private static void bestFence() {
        LotFences x = new LotFences();
        for (int weeks = 1; weeks <= 12; weeks++) {
            due("19: all alike: the greatest one", x.bestFence(weeks), 8);
        }
        x.product(0, 10, 4, 2, 5);
        x.forecast(0, 3, 8);
        due("19: lots in week 3 cost 100, 3 units late 15", x.bestFence(4), 8);
        x.set(7, 100);
        due("19: 3 units late cost 300", x.bestFence(4), 3);
        due("19: nothing is late yet", x.bestFence(3), 8);
        x.forecast(0, 0, 7);
        due("19: late at once", x.bestFence(1), 0);
        due("19: bestFence(0)", x.bestFence(0), -2);
        due("19: bestFence(13)", x.bestFence(13), -2);
        for (int wild : WILD) {
            due("19: bestFence(" + wild + ")", x.bestFence(wild), -2);
        }
        due("19: FENCE stays", x.count(12), 2);
    }

    /** Lots in the week 0 are dear to keep, those that come from the week 2 on are late. */
    private static void bestFenceInTheMiddle() {
        LotFences x = new LotFences();
        x.set(5, 0);
        x.set(4, 0);
        x.product(0, 1, 1, 0, 0);
        x.forecast(0, 0, 1);
        x.forecast(0, 1, 9);
        x.set(6, 100);
        // FENCE 0 keeps 9 units for a week, FENCE 1 has 1 unit late, FENCE 2 has 10.
        due("19: costs(0, 2)", x.costs(0, 2), 900);
        due("19: costs(1, 2)", x.costs(1, 2), 5);
        due("19: costs(2, 2)", x.costs(2, 2), 5 + 50);
        due("19: bestFence(2)", x.bestFence(2), 1);
        due("19: bestFence(1)", x.bestFence(1), 8);
        x.set(7, 0);
        due("19: nothing is late", x.bestFence(2), 8);
    }

    private static void roomFor() {
        LotFences x = new LotFences();
        due("20: roomFor(0, 2) without products", x.roomFor(0, 2), -1);
        x.product(0, 1, 10, 3, 0);
        x.product(0, 1, 4, 1, 0);
        x.product(1, 1, 50, 20, 0);
        due("20: (120 - 3 - 5) / 10", x.roomFor(0, 2), 11);
        due("20: frozen weeks, too", x.roomFor(0, 0), 11);
        due("20: the last week", x.roomFor(0, 11), 11);
        x.lots(0, 2, 8);
        due("20: (120 - 88) / 10", x.roomFor(0, 2), 3);
        due("20: (120 - 88 - 1) / 4", x.roomFor(1, 2), 7);
        due("20: 120 - 88 are too few", x.roomFor(2, 2), 0);
        due("20: another week", x.roomFor(2, 3), 1);
        x.set(0, 55);
        due("20: 75 - 20 - 5 for one lot of 50", x.roomFor(2, 3), 1);
        x.set(0, 54);
        due("20: 74 are one too few", x.roomFor(2, 3), 0);
        x.set(0, 100);
        x.lots(0, 2, 11);
        due("20: one hour is left, one is needed for the setup", x.roomFor(1, 2), 0);
        x.set(0, 98);
        due("20: all hours are used", x.roomFor(0, 2), 0);
        x.set(0, 10);
        due("20: more than all", x.roomFor(0, 2), 0);
        due("20: more than all", x.roomFor(1, 2), 0);
        x.set(0, 1000);
        x.set(1, 500);
        x.product(2, 1, 1, 0, 0);
        due("20: 1000 at most", x.roomFor(3, 4), 1000);
        x.lots(3, 4, 400);
        due("20: 1000 together", x.roomFor(3, 4), 600);
        x.lots(3, 4, 1000);
        due("20: 1000 are planned", x.roomFor(3, 4), 0);
        due("20: roomFor(4, 0)", x.roomFor(4, 0), -1);
        due("20: roomFor(0, 12)", x.roomFor(0, 12), -1);
        for (int wild : WILD) {
            due("20: roomFor(" + wild + ", 0)", x.roomFor(wild, 0), -1);
            due("20: roomFor(0, " + wild + ")", x.roomFor(0, wild), -1);
        }
    }

    private static void nothingChanges() {
        LotFences x = new LotFences();
        x.product(0, 10, 4, 2, 5);
        x.forecast(0, 3, 40);
        x.actual(0, 3);
        x.lots(0, 6, 2);
        x.firstShort(0);
        x.lasts(0);
        x.leastHours();
        x.costs(0, 12);
        x.bestFence(12);
        x.roomFor(0, 3);
        due("15 to 20 are no changes", x.count(9), 4);
        due("the plan stays", x.at(0, 6, 1), 2);
        due("nothing is planned", x.count(5), 2);
        due("told stays", x.ofProduct(0, 8), 3);
        due("stock stays", x.ofProduct(0, 4), 5);
        due("the forecast stays", x.at(0, 3, 0), 40);
        due("no week has passed", x.count(0), 0);
        due("HOURS stay", x.count(10), 100);
    }
}
