/** Promises 10 to 14: ofProduct, at, projection, ofWeek, count. */
public final class NumbersTest {
    private static final int[] WILD = {-1, -2, Integer.MIN_VALUE, Integer.MAX_VALUE};

    public static void main(String[] args) {
        ofProduct();
        at();
        projection();
        ofWeek();
        count();
        nothingChanges();
        Due.end();
    }

    private static void due(String call, long got, long want) {
        Due.due(call, got, want);
    }

    private static void dueRow(String call, long[] got, long... want) {
        for (int k = 0; k < want.length; k++) {
            due(call + " " + k, got[k], want[k]);
        }
    }

    /** Two products, in their second week. */
    private static LotFences works() {
        LotFences x = new LotFences();
        x.set(2, 0);
        x.product(3, 10, 7, 4, 100);
        x.product(1, 3, 2, 6, 9);
        x.forecast(0, 0, 20);
        x.forecast(0, 1, 10);
        x.forecast(0, 2, 200);
        x.forecast(1, 0, 30);
        x.lots(0, 0, 2);
        x.lots(1, 0, 1);
        x.actual(0, 60);
        x.set(4, 130);
        x.weeks(1);
        x.actual(1, 7);
        return x;
    }

    private static long[] ofProduct(LotFences x, int product) {
        long[] row = new long[13];
        for (int what = 0; what < 13; what++) {
            row[what] = x.ofProduct(product, what);
        }
        return row;
    }

    private static void ofProduct() {
        LotFences x = works();
        dueRow("10: ofProduct(0, ..)", ofProduct(x, 0), 3, 10, 7, 4, 60, 0, 5, 6, -6, 20, 60, 60, 100);
        dueRow("10: ofProduct(1, ..)", ofProduct(x, 1), 1, 3, 2, 6, 0, 18, 0, 0, 7, 3, 12, 30, 9);
        for (int wild : WILD) {
            due("10: ofProduct(" + wild + ", 0)", x.ofProduct(wild, 0), -1);
            due("10: ofProduct(" + wild + ", 13)", x.ofProduct(wild, 13), -1);
            due("10: ofProduct(0, " + wild + ")", x.ofProduct(0, wild), -2);
        }
        due("10: ofProduct(2, 0)", x.ofProduct(2, 0), -1);
        due("10: ofProduct(10, 0)", x.ofProduct(10, 0), -1);
        due("10: ofProduct(0, 13)", x.ofProduct(0, 13), -2);
        x.set(4, 0);
        due("10: cover with FACTOR 0", x.ofProduct(0, 7), 0);
        x.set(4, 399);
        due("10: cover with FACTOR 399", x.ofProduct(0, 7), 19);
    }

    private static void at() {
        LotFences x = works();
        due("11: at(0, 0, 0)", x.at(0, 0, 0), 10);
        due("11: at(0, 1, 0)", x.at(0, 1, 0), 200);
        due("11: at(1, 0, 1)", x.at(1, 0, 1), 6);
        due("11: at(0, 11, 1)", x.at(0, 11, 1), 0);
        for (int wild : WILD) {
            due("11: at(" + wild + ", 0, 0)", x.at(wild, 0, 0), -1);
            due("11: at(0, " + wild + ", 0)", x.at(0, wild, 0), -1);
            due("11: at(0, " + wild + ", 2)", x.at(0, wild, 2), -1);
            due("11: at(0, 0, " + wild + ")", x.at(0, 0, wild), -2);
        }
        due("11: at(2, 0, 0)", x.at(2, 0, 0), -1);
        due("11: at(0, 12, 0)", x.at(0, 12, 0), -1);
        due("11: at(2, 12, 2)", x.at(2, 12, 2), -1);
        due("11: at(0, 0, 2)", x.at(0, 0, 2), -2);
    }

    private static void projection() {
        LotFences x = new LotFences();
        due("12: projection(0, 0) without products", x.projection(0, 0), -1);
        x.product(0, 10, 1, 0, 25);
        x.forecast(0, 0, 26);
        x.forecast(0, 1, 5);
        x.forecast(0, 2, 3);
        x.actual(0, 1000);
        x.lots(0, 2, 2);
        x.lots(0, 11, 1);
        due("12: projection(0, 0)", x.projection(0, 0), -1);
        due("12: projection(0, 1)", x.projection(0, 1), -6);
        due("12: projection(0, 2)", x.projection(0, 2), 11);
        due("12: projection(0, 10)", x.projection(0, 10), 11);
        due("12: projection(0, 11)", x.projection(0, 11), 21);
        due("12: projection(1, 0)", x.projection(1, 0), -1);
        due("12: projection(0, 12)", x.projection(0, 12), -1);
        for (int wild : WILD) {
            due("12: projection(" + wild + ", 2)", x.projection(wild, 2), -1);
            due("12: projection(0, " + wild + ")", x.projection(0, wild), -1);
        }
        x.weeks(1);
        due("12: less the backlog", x.projection(0, 0), -975 - 5);
    }

    private static void ofWeek() {
        LotFences x = new LotFences();
        x.set(2, 0);
        x.product(3, 1, 7, 4, 0);
        x.product(1, 1, 2, 6, 0);
        x.product(3, 1, 1, 0, 0);
        x.family(3, 30);
        x.lots(0, 4, 9);
        x.lots(1, 4, 2);
        x.lots(2, 4, 1);
        x.lots(2, 5, 8);
        x.set(0, 90);
        due("13: hours 67 + 10 + 1 + 35", x.ofWeek(4, 0), 113);
        due("13: setups", x.ofWeek(4, 1), 5);
        due("13: overtime", x.ofWeek(4, 2), 23);
        due("13: families", x.ofWeek(4, 3), 10);
        due("13: hours", x.ofWeek(5, 0), 38);
        due("13: setups, also of 0 hours", x.ofWeek(5, 1), 2);
        due("13: overtime", x.ofWeek(5, 2), 0);
        due("13: families", x.ofWeek(5, 3), 8);
        due("13: families of no lots", x.ofWeek(6, 3), 0);
        due("13: setups of no lots", x.ofWeek(6, 1), 0);
        x.set(2, 5);
        due("13: frozen", x.ofWeek(4, 4), 1);
        due("13: frozen", x.ofWeek(0, 4), 1);
        due("13: not frozen", x.ofWeek(5, 4), 0);
        due("13: not frozen", x.ofWeek(11, 4), 0);
        due("13: ofWeek(12, 0)", x.ofWeek(12, 0), -1);
        due("13: ofWeek(12, 5)", x.ofWeek(12, 5), -1);
        due("13: ofWeek(0, 5)", x.ofWeek(0, 5), -2);
        for (int wild : WILD) {
            due("13: ofWeek(" + wild + ", 0)", x.ofWeek(wild, 0), -1);
            due("13: ofWeek(0, " + wild + ")", x.ofWeek(0, wild), -2);
        }
    }

    private static void count() {
        LotFences x = works();
        x.family(0, 1);
        x.family(1, 2);
        x.family(2, 3);
        x.family(3, 4);
        x.put(0x3131);
        // The hours were 18 + 8 + 10; the plans behind the week: 15 lots at once and 6 for 18 units that are late.
        long[] want = {1, 2, 4, 0, 4 * 50 + 60 + 18 * 5, 0, 60, 18, 2, 6, 100, 20, 0, 2, 130, 50, 1, 5, 3, 1, 2, 3, 4};
        for (int what = 0; what < want.length; what++) {
            if (what != 5) {
                due("14: count(" + what + ")", x.count(what), want[what]);
            }
        }
        long lots = 0;
        for (int week = 0; week < 12; week++) {
            lots += x.at(0, week, 1) + x.at(1, week, 1);
        }
        due("14: count(5)", x.count(5), lots);
        due("14: lots in plans", lots > 20 ? 1 : 0, 1);
        for (int wild : WILD) {
            due("14: count(" + wild + ")", x.count(wild), -2);
        }
        due("14: count(23)", x.count(23), -2);
        due("14: count(-2147483638)", x.count(-2147483638), -2);
        overtimeCounts();
    }

    private static void overtimeCounts() {
        LotFences x = new LotFences();
        x.set(2, 0);
        x.product(0, 1, 10, 0, 0);
        x.set(6, 0);
        x.lots(0, 0, 11);
        x.lots(0, 1, 10);
        x.set(2, 2);
        x.weeks(1);
        due("14: overtime so far", x.count(3), 15);
        due("14: costs so far", x.count(4), 2 * 50 + 15 * 3);
        x.weeks(1);
        due("14: overtime so far", x.count(3), 20);
        due("14: setups so far", x.count(2), 4);
        due("14: costs so far", x.count(4), 4 * 50 + 20 * 3);
        due("14: no lots are left", x.count(5), 0);
        due("14: stock", x.count(6), 21);
    }

    private static void nothingChanges() {
        LotFences x = works();
        long before = x.count(9);
        for (int k = 0; k < 12; k++) {
            x.ofProduct(0, k);
            x.at(0, k, 1);
            x.projection(0, k);
            x.ofWeek(k, 0);
            x.count(k);
        }
        due("10 to 14 are no changes", x.count(9), before);
        dueRow("10: ofProduct(0, ..) then", ofProduct(x, 0), 3, 10, 7, 4, 60, 0, 5, 6, -6, 20, 60, 60, 100);
    }
}
