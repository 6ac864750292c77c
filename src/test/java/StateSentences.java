/** The promises 25 to 27: undo, save, restore. */
final class StateSentences extends Sentences {
    private interface Change {
        void on(LotFences x);
    }

    private static final Change[] CHANGES = {
        x -> x.set(FENCE, 5), x -> x.set(FENCE, 2), x -> x.product(1, 1, 1, 1, 1), x -> x.family(2, 8),
        x -> x.forecast(1, 5, 9), x -> x.actual(1, NONE), x -> x.lots(1, 11, 9), x -> x.plan(), x -> x.weeks(5),
        x -> carryOut(x, "a0*1;f1@0*9;l1@9*1;n1;p;n0"), x -> carryOut(x, "n0"), x -> x.restore(0)};

    static void all() {
        undoesTheLatest();
        exceptPadSlotsHistory();
        sixStates();
        eachChangeRecords();
        oldestIsDropped();
        actsRecordNothing();
        undoReturns();
        nothingToUndo();
        saves();
        saveSlots();
        saveReturns();
        noSuchSlotToSave();
        restores();
        restoreIsAChange();
        restoreSlots();
        restoreReturns();
        noSuchSlot();
        nothingSaved();
    }

    private static int carryOut(LotFences x, String text) {
        Due.put(x, text);
        return x.carryOut();
    }

    /** Its slot 0 holds the state behind its first week. */
    private static LotFences works() {
        LotFences x = one(10, 4, 2, 50);
        x.product(2, 3, 1, 1, 7);
        x.forecast(0, 3, 70);
        x.forecast(1, 4, 20);
        x.plan();
        x.actual(0, 12);
        x.weeks(1);
        x.save(0);
        x.weeks(1);
        x.actual(1, 3);
        return x;
    }

    /** Two of these, told apart by 0 and 1, have no number in common. */
    private static LotFences filled(LotFences x, int by) {
        x.product(by, 2 + by, 3 + by, 4 + by, 50 + by);
        row(x, 0, 0, 60 + by, 1 + by, 2 + by, 3 + by, 4 + by, 5 + by, 6 + by, 7 + by, 8 + by, 9 + by, 10 + by, 11 + by);
        x.set(FENCE, 0);
        x.lots(0, 0, 9 + by);
        x.actual(0, 300 + 10 * by);
        int[] settings = {10, 30, 1, 2, 50, 5, 20, 30, 40};
        for (int setting = 0; setting < 9; setting++) {
            x.set(setting, settings[setting] + by);
        }
        for (int family = 0; family < 4; family++) {
            x.family(family, 6 + 2 * family + by);
        }
        x.weeks(1 + by);
        x.actual(0, 7 + by);
        return x;
    }

    /** The present state and the one of slot 1 are filled by 0, that of slot 0 by 1. */
    private static LotFences both() {
        LotFences x = new LotFences();
        x.save(0);
        filled(x, 0);
        x.save(1);
        x.restore(0);
        filled(x, 1);
        x.save(0);
        x.restore(1);
        return x;
    }

    private static void undoesTheLatest() {
        sentence(25, "Undoes the latest change:");
        LotFences x = new LotFences();
        x.set(HOURS, 1);
        x.set(HOURS, 2);
        x.set(OVERTIME, 3);
        x.undo();
        due("OVERTIME", x.count(11), 20);
        due("HOURS", x.count(10), 2);
        x.undo();
        due("HOURS", x.count(10), 1);
        x.set(HOURS, 4);
        x.undo();
        due("HOURS, undone once more", x.count(10), 1);
        x.undo();
        due("HOURS at first", x.count(10), 100);
    }

    private static void exceptPadSlotsHistory() {
        sentence(25, "everything except the pad, the slots and the history is as it was before it.");
        for (int kind = 0; kind < CHANGES.length; kind++) {
            LotFences x = works();
            String before = Seen.state(x);
            CHANGES[kind].on(x);
            x.undo();
            same("what is seen behind undo() of the change " + kind, Seen.state(x), before);
        }
        LotFences other = both();
        other.restore(0);
        same("what another state had", Seen.state(other), Seen.state(filled(new LotFences(), 1)));
        other.undo();
        same("what is seen behind undo() of it", Seen.state(other), Seen.state(filled(new LotFences(), 0)));
        LotFences x = new LotFences();
        x.weeks(1);
        x.save(1);
        x.weeks(1);
        x.put('p');
        x.undo();
        due("the pad stays", x.count(8), 1);
        due("the slot stays", x.restore(1), 1);
        x.undo();
        x.put('x');
        x.undo();
        due("weeks", x.count(0), 0);
        due("the pad stays again", x.wipe(), 2);
        x.weeks(7);
        x.undo();
        due("an empty pad stays", x.count(8), 0);
        due("the slot stays again", x.restore(1), 1);
    }

    private static void sixStates() {
        sentence(25, "A history of at most 6 states is kept:");
        LotFences x = new LotFences();
        for (int k = 1; k <= 6; k++) {
            x.set(HOURS, k);
            due("changes", x.count(9), k);
        }
        x.set(HOURS, 7);
        due("changes", x.count(9), 6);
        for (int k = 6; k >= 1; k--) {
            due("undo()", x.undo(), k - 1);
            due("HOURS", x.count(10), k);
        }
        due("undo()", x.undo(), NOT_POSSIBLE);
        due("HOURS", x.count(10), 1);
    }

    private static void eachChangeRecords() {
        sentence(25, "each method that is a change, and returns no error, records the state before it (also if "
            + "nothing is different then);");
        for (int kind = 0; kind < CHANGES.length; kind++) {
            LotFences x = works();
            x.undo();
            x.undo();
            due("changes ahead of the change " + kind, x.count(9), 4);
            CHANGES[kind].on(x);
            due("changes behind it", x.count(9), 5);
        }
        LotFences same = one(1, 1, 0, 0);
        same.forecast(0, 5, 0);
        same.actual(0, NONE);
        same.lots(0, 5, 0);
        same.plan();
        due("changes of nothing", same.count(9), 5);
        LotFences x = new LotFences();
        x.set(9, 1);
        x.product(4, 1, 1, 1, 1);
        x.family(0, 51);
        x.forecast(0, 0, 0);
        x.actual(0, 0);
        x.lots(0, 5, 0);
        x.weeks(0);
        x.carryOut();
        x.restore(0);
        x.undo();
        due("changes behind errors", x.count(9), 0);
        x.put('p');
        x.fault();
        x.wipe();
        x.save(0);
        x.leastHours();
        x.costs(0, 12);
        x.bestFence(12);
        due("changes behind what is none", x.count(9), 0);
    }

    private static void oldestIsDropped() {
        sentence(25, "when one more is recorded, the oldest one is dropped.");
        LotFences x = new LotFences();
        for (int k = 1; k <= 9; k++) {
            x.weeks(1);
        }
        for (int k = 5; k >= 0; k--) {
            due("undo()", x.undo(), k);
            due("weeks", x.count(0), 3 + k);
        }
        due("undo()", x.undo(), NOT_POSSIBLE);
        due("weeks", x.count(0), 3);
        LotFences y = new LotFences();
        for (int k = 1; k <= 20; k++) {
            y.weeks(k);
            y.weeks(1);
            due("undo()", y.undo(), Math.min(5, k));
        }
        due("undo()", y.undo(), 4);
        due("weeks", y.count(0), 190);
    }

    private static void actsRecordNothing() {
        sentence(25, "An act of a text records nothing by itself.");
        LotFences x = one(1, 1, 0, 0);
        x.weeks(2);
        due("carryOut()", carryOut(x, "n1;p;f0@0*1;a0*1;l0@5*1;n1;n1"), 7);
        due("changes", x.count(9), 3);
        due("undo()", x.undo(), 2);
        due("weeks", x.count(0), 2);
        due("lots", x.count(5), 0);
        due("carryOut()", carryOut(x, "n1;n1;n1;n1;n1;n1;n1;n0"), 7);
        due("changes", x.count(9), 3);
        x.undo();
        due("undo()", x.undo(), 1);
        due("weeks", x.count(0), 0);
        x.plan();
        due("a method behind a text records", x.count(9), 2);
    }

    private static void undoReturns() {
        sentence(25, "Returns how many changes can be undone then;");
        LotFences x = new LotFences();
        x.plan();
        x.plan();
        due("undo()", x.undo(), 1);
        due("count(9)", x.count(9), 1);
        x.plan();
        x.plan();
        due("undo()", x.undo(), 2);
        due("undo()", x.undo(), 1);
        due("undo()", x.undo(), 0);
        due("count(9)", x.count(9), 0);
    }

    private static void nothingToUndo() {
        sentence(25, "NOT_POSSIBLE if there is none.");
        LotFences x = new LotFences();
        due("undo() of a new object", x.undo(), NOT_POSSIBLE);
        x.save(0);
        x.put('p');
        due("undo() behind what is no change", x.undo(), NOT_POSSIBLE);
        x.plan();
        due("undo()", x.undo(), 0);
        due("undo() again", x.undo(), NOT_POSSIBLE);
    }

    private static void saves() {
        sentence(26, "Saves everything except the pad, the history and the slots in a slot, and overwrites what "
            + "was saved there.");
        LotFences x = works();
        String first = Seen.state(x);
        x.save(1);
        for (int kind = 0; kind < 3; kind++) {
            CHANGES[9 - kind].on(x);
        }
        x.put('p');
        long changes = x.count(9);
        due("restore(1)", x.restore(1), 2);
        same("what is seen then", Seen.state(x), first);
        due("the pad is not saved", x.count(8), 1);
        due("the history is not saved", x.count(9), Math.min(6, changes + 1));
        x.weeks(4);
        due("save(1) again", x.save(1), 6);
        x.weeks(1);
        due("it was overwritten", x.restore(1), 6);
        due("the other slot was not", x.restore(0), 1);
        x.save(1);
        due("a slot saves no slot", x.restore(0), 1);
        same("what a slot saved of all that differs", Seen.state(both()), Seen.state(filled(new LotFences(), 0)));
        LotFences y = one(1, 1, 0, 0);
        y.save(0);
        y.product(3, 4, 5, 6, 7);
        y.save(0);
        y.undo();
        y.restore(0);
        due("a product more than was saved before", y.ofProduct(1, 12), 7);
    }

    private static void saveSlots() {
        sentence(26, "slot: 0 or 1");
        LotFences x = new LotFences();
        due("save(-1)", x.save(-1), BAD_VALUE);
        due("save(0)", x.save(0), 0);
        x.weeks(1);
        due("save(1)", x.save(1), 1);
        due("save(2)", x.save(2), BAD_VALUE);
        due("restore(0)", x.restore(0), 0);
        due("restore(1)", x.restore(1), 1);
    }

    private static void saveReturns() {
        sentence(26, "Returns how many weeks have passed;");
        LotFences x = new LotFences();
        due("save(0) of a new object", x.save(0), 0);
        x.weeks(30);
        due("save(0)", x.save(0), 30);
        due("save(1)", x.save(1), 30);
        x.undo();
        due("save(1) behind undo()", x.save(1), 0);
        due("save() is no change", x.count(9), 0);
    }

    private static void noSuchSlotToSave() {
        sentence(26, "BAD_VALUE if there is no such slot.");
        LotFences x = new LotFences();
        for (int slot : new int[] {-1, 2, LEAST_INT, MOST_INT}) {
            due("save(" + slot + ")", x.save(slot), BAD_VALUE);
        }
        due("restore(0), nothing was saved", x.restore(0), NOT_POSSIBLE);
        due("restore(1), nothing was saved", x.restore(1), NOT_POSSIBLE);
    }

    private static void restores() {
        sentence(27, "Restores what was saved last in a slot, which keeps it.");
        for (int kind = 0; kind < CHANGES.length; kind++) {
            LotFences x = works();
            String saved = Seen.state(x);
            x.save(0);
            CHANGES[kind].on(x);
            x.restore(0);
            same("what is seen behind restore() of what was ahead of the change " + kind, Seen.state(x), saved);
            CHANGES[kind].on(x);
            x.restore(0);
            same("what is seen behind it once more", Seen.state(x), saved);
        }
        LotFences x = works();
        x.save(1);
        x.weeks(1);
        x.save(1);
        x.weeks(1);
        due("what was saved last", x.restore(1), 3);
        LotFences other = both();
        other.restore(0);
        same("all that differs in the slot 0", Seen.state(other), Seen.state(filled(new LotFences(), 1)));
        other.restore(1);
        same("all that differs in the slot 1", Seen.state(other), Seen.state(filled(new LotFences(), 0)));
        LotFences y = ten();
        y.save(0);
        y.undo();
        y.undo();
        y.save(1);
        y.restore(0);
        due("more products", y.count(1), 10);
        due("the last of them", y.ofProduct(9, STOCK), 900);
        y.restore(1);
        due("less products", y.count(1), 8);
        due("the next one begins anew", y.product(0, 1, 1, 0, 3), 8);
        due("its stock", y.ofProduct(8, STOCK), 3);
    }

    private static void restoreIsAChange() {
        sentence(27, "This is a change.");
        LotFences x = new LotFences();
        x.save(0);
        x.restore(0);
        due("changes, nothing is different", x.count(9), 1);
        x.weeks(3);
        x.put('p');
        x.restore(0);
        due("changes", x.count(9), 3);
        due("the pad stays", x.count(8), 1);
        due("undo()", x.undo(), 2);
        due("weeks", x.count(0), 3);
        due("the pad stays again", x.count(8), 1);
        due("the slot, too", x.restore(0), 0);
    }

    private static void restoreSlots() {
        sentence(27, "slot: 0 or 1");
        LotFences x = new LotFences();
        x.save(0);
        x.weeks(1);
        x.save(1);
        due("restore(-1)", x.restore(-1), BAD_VALUE);
        due("restore(0)", x.restore(0), 0);
        due("restore(1)", x.restore(1), 1);
        due("restore(2)", x.restore(2), BAD_VALUE);
    }

    private static void restoreReturns() {
        sentence(27, "Returns how many weeks have passed then;");
        LotFences x = new LotFences();
        x.weeks(4);
        x.save(0);
        x.weeks(30);
        x.save(1);
        due("restore(0)", x.restore(0), 4);
        due("count(0)", x.count(0), 4);
        due("restore(1)", x.restore(1), 34);
        due("count(0)", x.count(0), 34);
    }

    private static void noSuchSlot() {
        sentence(27, "BAD_VALUE if there is no such slot;");
        LotFences x = new LotFences();
        for (int slot : new int[] {-1, 2, LEAST_INT, MOST_INT}) {
            due("restore(" + slot + "), nothing was saved", x.restore(slot), BAD_VALUE);
        }
        x.save(0);
        x.save(1);
        for (int slot : new int[] {-1, 2, LEAST_INT, MOST_INT}) {
            due("restore(" + slot + ")", x.restore(slot), BAD_VALUE);
        }
        due("changes", x.count(9), 0);
    }

    private static void nothingSaved() {
        sentence(27, "NOT_POSSIBLE if nothing was saved in it.");
        LotFences x = new LotFences();
        due("restore(0)", x.restore(0), NOT_POSSIBLE);
        due("restore(1)", x.restore(1), NOT_POSSIBLE);
        x.save(1);
        due("restore(0), the other one was saved", x.restore(0), NOT_POSSIBLE);
        due("restore(1)", x.restore(1), 0);
        due("changes", x.count(9), 1);
        LotFences y = new LotFences();
        y.save(0);
        due("restore(1), the other one was saved", y.restore(1), NOT_POSSIBLE);
        due("restore(0)", y.restore(0), 0);
    }
}
