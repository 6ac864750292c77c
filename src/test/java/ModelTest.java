/** Long runs of calls, the same ones each time, with the answers of LotFencesModel. */
public final class ModelTest {
    private static final int RUNS = 1200;
    // An object answers for 512 calls; no kind of call below takes more than 16 of them.
    private static final int CALLS = 512;
    private static final int MOST_AT_ONCE = 16;
    private static final int CALLS_OF_A_PRODUCT = 85;
    private static final int[] ODD = {
        -1, 12, 10, 4, 1001, 2001, -6, -7, 13, 31, 101, 51, 21, 10001, Integer.MAX_VALUE, Integer.MIN_VALUE, -2};
    private static final int[] MOST_SETTINGS = {1000, 500, 8, 6, 400, 1000, 100, 100, 100};

    private static long seed;
    private static LotFences x;
    private static LotFencesModel m;
    private static int scale;
    private static int calls;

    public static void main(String[] args) {
        for (int run = 0; run < RUNS; run++) {
            seed = 77L * run + 5;
            scale = 1 + run % 4;
            x = new LotFences();
            m = new LotFencesModel();
            calls = 0;
            for (int turn = 0; calls <= CALLS - MOST_AT_ONCE; turn++) {
                call("run " + run + ", call " + calls + ": ", turn < 12 ? first(run, turn) : below(40));
                if (turn % 32 == 31) {
                    compare("run " + run + ", behind call " + calls + ": ", below(4));
                }
            }
        }
        Due.end();
    }

    /** Every fifth run begins with ten products, the others with a few and their forecasts. */
    private static int first(int run, int turn) {
        return run % 5 == 0 ? turn / 10 : turn % 3;
    }

    private static int below(int bound) {
        seed = seed * 6364136223846793005L + 1442695040888963407L;
        return (int) ((seed >>> 33) % bound);
    }

    /** Mostly a number of the range, now and then one outside it. */
    private static int some(int least, int most) {
        int kind = below(40);
        if (kind == 0) {
            return ODD[below(ODD.length)];
        }
        if (kind == 1) {
            return most + below(2);
        }
        return kind == 2 ? least - below(2) : least + below(most - least + 1);
    }

    private static int someProduct() {
        long products = m.count(1);
        return below(30) == 0 || products == 0 ? some(0, 9) : below((int) products);
    }

    private static int someUnits() {
        return below(4) == 0 ? some(0, 1000) : below(40 * scale);
    }

    private static int someSetting(int setting) {
        if (setting < 0 || setting > 8 || below(3) == 0) {
            return some(0, 1000);
        }
        return setting == 0 && below(2) == 0 ? below(120) : some(setting == 3 ? 1 : 0, MOST_SETTINGS[setting]);
    }

    private static void call(String at, int kind) {
        switch (kind) {
            case 0: product(at); break;
            case 1: case 2: case 3: case 4: case 5: forecast(at); break;
            case 6: case 7: settings(at); break;
            case 8: case 9: case 10: actual(at); break;
            case 11: case 12: case 13: case 14: lots(at); break;
            case 15: case 16: due(at + "plan()", x.plan(), m.plan()); break;
            case 17: case 18: case 19: case 20: weeks(at); break;
            case 21: case 22: case 23: case 24: numbers(at); break;
            case 25: case 26: case 27: case 28: case 29: whatIf(at); break;
            case 30: case 31: case 32: case 33: case 34: case 35: texts(at); break;
            case 36: family(at); break;
            default: states(at); break;
        }
    }

    private static void due(String call, long got, long want) {
        calls++;
        Due.due(call, got, want);
    }

    private static void product(String at) {
        int family = some(0, 3);
        int lotSize = some(1, below(2) == 0 ? 100 : 12);
        int lotHours = some(1, below(2) == 0 ? 50 : 8);
        int setupHours = some(0, 20);
        int stock = below(10) == 0 ? some(0, 10000) : below(80);
        due(at + "product(" + family + ", " + lotSize + ", " + lotHours + ", " + setupHours + ", " + stock + ")",
            x.product(family, lotSize, lotHours, setupHours, stock),
            m.product(family, lotSize, lotHours, setupHours, stock));
    }

    private static void forecast(String at) {
        int product = someProduct();
        int week = some(0, 11);
        int units = someUnits();
        due(at + "forecast(" + product + ", " + week + ", " + units + ")",
            x.forecast(product, week, units), m.forecast(product, week, units));
    }

    private static void settings(String at) {
        int setting = some(0, 8);
        int value = someSetting(setting);
        due(at + "set(" + setting + ", " + value + ")", x.set(setting, value), m.set(setting, value));
    }

    private static void family(String at) {
        int family = some(0, 3);
        int hours = some(0, 50);
        due(at + "family(" + family + ", " + hours + ")", x.family(family, hours), m.family(family, hours));
    }

    private static void actual(String at) {
        int product = someProduct();
        int units = below(8) == 0 ? -6 : below(4) == 0 ? some(0, 2000) : someUnits();
        due(at + "actual(" + product + ", " + units + ")", x.actual(product, units), m.actual(product, units));
    }

    private static void lots(String at) {
        int product = someProduct();
        int week = below(3) == 0 ? some(0, 11) : below(12);
        int room = m.roomFor(product, week);
        int lots = below(3) == 0 ? some(0, 1000) : below(12);
        if (room >= 0 && below(2) == 0) {
            lots = m.at(product, week, 1) + room + below(2);
        }
        due(at + "lots(" + product + ", " + week + ", " + lots + ")",
            x.lots(product, week, lots), m.lots(product, week, lots));
    }

    private static void weeks(String at) {
        int weeks = below(6) == 0 ? some(1, 30) : 1 + below(3);
        due(at + "weeks(" + weeks + ")", x.weeks(weeks), m.weeks(weeks));
    }

    private static void numbers(String at) {
        int product = someProduct();
        int week = some(0, 11);
        int what = some(0, 12);
        due(at + "ofProduct(" + product + ", " + what + ")", x.ofProduct(product, what), m.ofProduct(product, what));
        due(at + "at(" + product + ", " + week + ", " + what / 6 + ")",
            x.at(product, week, what / 6), m.at(product, week, what / 6));
        due(at + "projection(" + product + ", " + week + ")",
            x.projection(product, week), m.projection(product, week));
        due(at + "ofWeek(" + week + ", " + what / 3 + ")", x.ofWeek(week, what / 3), m.ofWeek(week, what / 3));
        int number = some(0, 22);
        due(at + "count(" + number + ")", x.count(number), m.count(number));
    }

    private static void whatIf(String at) {
        int product = someProduct();
        int week = some(0, 11);
        switch (below(6)) {
            case 0: due(at + "firstShort(" + product + ")", x.firstShort(product), m.firstShort(product)); break;
            case 1: due(at + "lasts(" + product + ")", x.lasts(product), m.lasts(product)); break;
            case 2: due(at + "leastHours()", x.leastHours(), m.leastHours()); break;
            case 3: due(at + "roomFor(" + product + ", " + week + ")",
                x.roomFor(product, week), m.roomFor(product, week)); break;
            case 4:
                int fence = some(0, 8);
                due(at + "costs(" + fence + ", " + (week + 1) + ")", x.costs(fence, week + 1), m.costs(fence, week + 1));
                break;
            default: due(at + "bestFence(" + (week + 1) + ")", x.bestFence(week + 1), m.bestFence(week + 1)); break;
        }
    }

    private static void texts(String at) {
        switch (below(7)) {
            case 0: due(at + "wipe()", x.wipe(), m.wipe()); break;
            case 1:
                long signs = below(3) == 0 ? (long) below(Integer.MAX_VALUE) << below(40) : 33 + below(96);
                due(at + "put(" + signs + ")", x.put(signs), m.put(signs));
                break;
            case 2: case 3: due(at + "carryOut()", x.carryOut(), m.carryOut()); break;
            default:
                if (below(2) == 0) {
                    due(at + "wipe()", x.wipe(), m.wipe());
                }
                putText(at, someText());
                break;
        }
        due(at + "fault()", x.fault(), m.fault());
    }

    private static String someText() {
        StringBuilder text = new StringBuilder();
        int acts = 1 + below(8);
        for (int k = 0; k < acts; k++) {
            text.append(k == 0 ? "" : ";").append(someAct());
        }
        if (below(4) == 0) {
            text.setCharAt(below(text.length()), "falpn0159@*;".charAt(below(12)));
        }
        if (below(6) == 0) {
            text.setLength(below(text.length() + 1));
        }
        return text.toString();
    }

    private static String someAct() {
        int product = below(20) == 0 ? below(10) : Math.max(0, (int) m.count(1) - 1 - below(2));
        int week = below(20) == 0 ? below(10000) : below(12);
        int units = below(12) == 0 ? below(12000) : someUnits();
        switch (below(5)) {
            case 0: return "f" + product + "@" + week + "*" + units;
            case 1: return "a" + product + "*" + units;
            case 2: return "l" + product + "@" + week + "*" + below(20);
            case 3: return "p";
            default: return "n" + (below(8) == 0 ? below(40) : 1 + below(3));
        }
    }

    private static void putText(String at, String text) {
        for (int from = 0; from < text.length(); from += 8) {
            String piece = text.substring(from, Math.min(from + 8, text.length()));
            long signs = Due.packed(piece);
            due(at + "put(\"" + piece + "\")", x.put(signs), m.put(signs));
        }
    }

    private static void states(String at) {
        int slot = below(20) == 0 ? some(0, 1) : below(2);
        switch (below(4)) {
            case 0: due(at + "save(" + slot + ")", x.save(slot), m.save(slot)); break;
            case 1: due(at + "restore(" + slot + ")", x.restore(slot), m.restore(slot)); break;
            default: due(at + "undo()", x.undo(), m.undo()); break;
        }
    }

    /** Looks at a part of all that can be seen, as long as there are calls left for it. */
    private static void compare(String at, int part) {
        if (calls > CALLS - CALLS_OF_A_PRODUCT) {
            return;
        }
        if (part == 0) {
            for (int what = -1; what <= 23; what++) {
                due(at + "count(" + what + ")", x.count(what), m.count(what));
            }
        } else if (part == 1) {
            for (int week = below(6); week <= 12; week += 2) {
                for (int what = -1; what <= 5; what++) {
                    due(at + "ofWeek(" + week + ", " + what + ")", x.ofWeek(week, what), m.ofWeek(week, what));
                }
            }
        } else {
            compareProduct(at, below((int) m.count(1) + 1));
        }
    }

    private static void compareProduct(String at, int product) {
        for (int what = -1; what <= 13; what++) {
            due(at + "ofProduct(" + product + ", " + what + ")", x.ofProduct(product, what), m.ofProduct(product, what));
        }
        for (int week = -1; week <= 12; week++) {
            for (int what = -1; what <= 2; what++) {
                due(at + "at(" + product + ", " + week + ", " + what + ")",
                    x.at(product, week, what), m.at(product, week, what));
            }
            due(at + "projection(" + product + ", " + week + ")",
                x.projection(product, week), m.projection(product, week));
        }
    }
}
