/** Promises 25 to 27: undo, save, restore. */
public final class StatesTest {
    public static void main(String[] args) {
        undoOfEach();
        historyOfSix();
        errorsRecordNothing();
        undoKeepsPadAndSlots();
        save();
        restore();
        restoreBringsAllBack();
        restoreOfOtherProducts();
        Due.end();
    }

    private static void due(String call, long got, long want) {
        Due.due(call, got, want);
    }

    private static void same(String call, String got, String want) {
        if (!got.equals(want)) {
            Due.wrong(call + " gave " + got + ", due is " + want);
        }
    }

    private static LotFences works() {
        LotFences x = new LotFences();
        x.product(0, 10, 4, 2, 50);
        x.product(2, 3, 1, 1, 7);
        x.forecast(0, 3, 70);
        x.forecast(1, 4, 20);
        x.plan();
        x.actual(0, 12);
        x.weeks(2);
        x.actual(1, 3);
        return x;
    }

    private static void change(LotFences x, int kind) {
        switch (kind) {
            case 0: due("25: set()", x.set(4, 50), 100); break;
            case 1: due("25: set() to the same", x.set(4, 100), 100); break;
            case 2: due("25: product()", x.product(1, 1, 1, 1, 1), 2); break;
            case 3: due("25: family()", x.family(2, 8), 5); break;
            case 4: due("25: forecast()", x.forecast(1, 5, 9), 0); break;
            case 5: due("25: actual()", x.actual(1, -6), 3); break;
            case 6: due("25: lots()", x.lots(1, 11, 9), 0); break;
            case 7: x.plan(); break;
            case 8: due("25: weeks()", x.weeks(5), 7); break;
            case 9:
                Due.put(x, "a0*1;f1@0*9;l1@9*1;n1;p;n0");
                due("25: carryOut()", x.carryOut(), 5);
                break;
            default:
                due("25: save()", x.save(1), 2);
                due("25: restore()", x.restore(1), 2);
                break;
        }
    }

    private static void undoOfEach() {
        for (int kind = 0; kind <= 10; kind++) {
            LotFences x = works();
            x.undo();
            x.actual(1, 3);
            x.undo();
            x.undo();
            x.weeks(2);
            x.actual(1, 3);
            String before = Seen.state(x);
            long changes = x.count(9);
            change(x, kind);
            due("25: changes behind kind " + kind, x.count(9), Math.min(6, changes + 1));
            due("25: undo() of kind " + kind, x.undo(), Math.min(6, changes + 1) - 1);
            same("25: undo() of kind " + kind, Seen.state(x), before);
        }
    }

    private static void historyOfSix() {
        LotFences x = new LotFences();
        due("25: undo() of nothing", x.undo(), -5);
        for (int k = 1; k <= 9; k++) {
            x.set(0, k);
            due("25: count(9)", x.count(9), Math.min(6, k));
        }
        for (int k = 5; k >= 0; k--) {
            due("25: undo()", x.undo(), k);
            due("25: HOURS", x.count(10), 3 + k);
        }
        due("25: the oldest are dropped", x.undo(), -5);
        due("25: HOURS", x.count(10), 3);
        x.set(0, 20);
        x.set(0, 21);
        due("25: undo()", x.undo(), 1);
        x.set(0, 22);
        due("25: undo()", x.undo(), 1);
        due("25: HOURS", x.count(10), 20);
        due("25: undo()", x.undo(), 0);
        due("25: HOURS", x.count(10), 3);
    }

    private static void errorsRecordNothing() {
        LotFences x = new LotFences();
        x.product(0, 1, 1, 0, 0);
        x.set(0, 2000);
        x.product(4, 1, 1, 0, 0);
        x.family(4, 1);
        x.forecast(1, 0, 0);
        x.actual(0, -1);
        x.lots(0, 0, 1);
        x.weeks(0);
        x.carryOut();
        x.restore(0);
        x.restore(2);
        x.put(0);
        due("25: count(9)", x.count(9), 1);
        x.save(0);
        x.put('p');
        x.wipe();
        x.fault();
        due("25: what is no change", x.count(9), 1);
        due("25: undo()", x.undo(), 0);
    }

    private static void undoKeepsPadAndSlots() {
        LotFences x = new LotFences();
        x.weeks(1);
        x.save(0);
        x.put('p');
        x.weeks(1);
        x.save(1);
        due("25: undo()", x.undo(), 1);
        due("25: undo()", x.undo(), 0);
        due("25: the pad stays", x.count(8), 1);
        due("25: count(0)", x.count(0), 0);
        due("25: the slot 0 stays", x.restore(0), 1);
        due("25: the slot 1 stays", x.restore(1), 2);
        due("25: undo()", x.undo(), 1);
        due("25: count(0)", x.count(0), 1);
    }

    private static void save() {
        LotFences x = new LotFences();
        due("26: save(-1)", x.save(-1), -2);
        due("26: save(2)", x.save(2), -2);
        due("26: save(most int)", x.save(Integer.MAX_VALUE), -2);
        due("26: save(least int)", x.save(Integer.MIN_VALUE), -2);
        due("26: restore(0)", x.restore(0), -5);
        x.weeks(4);
        due("26: save(1)", x.save(1), 4);
        due("26: restore(0)", x.restore(0), -5);
        due("26: count(9)", x.count(9), 1);
        x.weeks(3);
        due("26: save(1) again", x.save(1), 7);
        x.weeks(1);
        due("26: it is overwritten", x.restore(1), 7);
    }

    private static void restore() {
        LotFences x = new LotFences();
        due("27: restore(-1)", x.restore(-1), -2);
        due("27: restore(2)", x.restore(2), -2);
        due("27: restore(most int)", x.restore(Integer.MAX_VALUE), -2);
        due("27: restore(least int)", x.restore(Integer.MIN_VALUE), -2);
        due("27: restore(0)", x.restore(0), -5);
        due("27: restore(1)", x.restore(1), -5);
        due("27: wrong ones are no change", x.count(9), 0);
        x.save(0);
        x.put(0x7070L);
        x.weeks(9);
        due("27: restore(0)", x.restore(0), 0);
        due("27: it is a change", x.count(9), 2);
        due("27: the pad stays", x.count(8), 2);
        x.weeks(2);
        due("27: the slot keeps it", x.restore(0), 0);
        due("27: undo()", x.undo(), 3);
        due("27: count(0)", x.count(0), 2);
    }

    private static void restoreBringsAllBack() {
        for (int kind = 0; kind <= 9; kind++) {
            LotFences x = works();
            String first = Seen.state(x);
            x.save(0);
            change(x, kind);
            x.restore(0);
            same("27: restore() behind kind " + kind, Seen.state(x), first);
        }
        LotFences x = works();
        String first = Seen.state(x);
        x.save(0);
        x.set(3, 5);
        x.weeks(3);
        x.save(1);
        x.restore(0);
        same("27: restore(0)", Seen.state(x), first);
        x.restore(1);
        x.undo();
        same("27: undo() of restore(1)", Seen.state(x), first);
    }

    /** The two states differ in whatever a state has. */
    private static void restoreOfOtherProducts() {
        int[] few = {0, 1, 2, 3, 4, 5, 6};
        int[] more = {1, 2, 3, 4, 5, 6, 7};
        String second = Seen.state(different(new LotFences(), few));
        String first = Seen.state(different(new LotFences(), more));
        for (int slot = 0; slot < 2; slot++) {
            LotFences x = new LotFences();
            x.save(0);
            different(x, few);
            x.save(1);
            x.restore(0);
            different(x, more);
            x.save(0);
            x.restore(1 - slot);
            x.restore(slot);
            same("27: restore(" + slot + ")", Seen.state(x), slot == 0 ? first : second);
            x.undo();
            same("27: undo() of it", Seen.state(x), slot == 0 ? second : first);
        }
    }

    private static LotFences different(LotFences x, int[] a) {
        for (int setting = 0; setting < 9; setting++) {
            x.set(setting, setting == 2 ? 0 : 1 + a[0]);
        }
        for (int family = 0; family < 4; family++) {
            x.family(family, a[1]);
        }
        for (int product = 0; product < 2 + a[0]; product++) {
            x.product(a[0] + product, 1 + a[1], 1 + a[2], a[3], 10 * a[4]);
            x.forecast(product, 0, 10 + a[5]);
            x.forecast(product, 5, 20 + a[6]);
        }
        x.set(0, 500);
        x.lots(0, 0, 100 + a[2]);
        x.set(0, 10);
        x.actual(0, 30 + a[6]);
        x.weeks(1 + a[0]);
        x.actual(1, 3 + a[5]);
        return x;
    }
}
