import java.util.ArrayDeque;
import java.util.ArrayList;
import java.util.Comparator;
import java.util.Deque;
import java.util.List;
import java.util.Set;
import java.util.TreeSet;
import java.util.regex.Pattern;

/** The document a second time, as plainly as the Java library lets it be said: what the class is compared with. */
final class LotFencesModel {
    private static final int NO_SUCH = -1, BAD_VALUE = -2, BAD_TEXT = -3, TOO_MANY = -4, NOT_POSSIBLE = -5, NONE = -6;
    private static final int[][] RANGES = {
        {0, 1000}, {0, 500}, {0, 8}, {1, 6}, {0, 400}, {0, 1000}, {0, 100}, {0, 100}, {0, 100}};
    private static final String NUMBER = "(0|[1-9][0-9]{0,3})";
    private static final String ACT =
        "(f[0-9]@" + NUMBER + "[*]" + NUMBER + "|a[0-9][*]" + NUMBER + "|l[0-9]@" + NUMBER + "[*]" + NUMBER
        + "|p|n" + NUMBER + ")";
    private static final Pattern TEXT = Pattern.compile(ACT + "(;" + ACT + ")*");
    // Whatever can still become a text becomes one with one of these.
    private static final String[] ENDS = {"", "p", "0@0*0", "@0*0", "0*0", "*0", "0"};

    private static final class Item {
        int family, size, lotHours, setupHours, began, stock, backlog, error, made, shipped, came;
        int told = NONE;
        int[] forecasts = new int[12];
        int[] lots = new int[12];

        Item copy() {
            Item c = new Item();
            c.family = family;
            c.size = size;
            c.lotHours = lotHours;
            c.setupHours = setupHours;
            c.began = began;
            c.stock = stock;
            c.backlog = backlog;
            c.error = error;
            c.made = made;
            c.shipped = shipped;
            c.came = came;
            c.told = told;
            c.forecasts = forecasts.clone();
            c.lots = lots.clone();
            return c;
        }

        long projection(int week) {
            long units = stock - backlog;
            for (int k = 0; k <= week; k++) {
                units = units + lots[k] * size - forecasts[k];
            }
            return units;
        }
    }

    private static final class State {
        int[] settings = {100, 20, 2, 2, 100, 50, 1, 5, 3};
        int[] familyHours = {5, 5, 5, 5};
        List<Item> items = new ArrayList<>();
        int weeks;
        long setups, overtime, costs;

        State copy() {
            State c = new State();
            c.settings = settings.clone();
            c.familyHours = familyHours.clone();
            for (Item item : items) {
                c.items.add(item.copy());
            }
            c.weeks = weeks;
            c.setups = setups;
            c.overtime = overtime;
            c.costs = costs;
            return c;
        }

        int cover(Item item) {
            return item.error * settings[4] / 100;
        }

        Set<Integer> families(int week) {
            Set<Integer> families = new TreeSet<>();
            for (Item item : items) {
                if (item.lots[week] > 0) {
                    families.add(item.family);
                }
            }
            return families;
        }

        int hours(int week) {
            int hours = 0;
            for (Item item : items) {
                if (item.lots[week] > 0) {
                    hours += item.setupHours + item.lots[week] * item.lotHours;
                }
            }
            for (int family : families(week)) {
                hours += familyHours[family];
            }
            return hours;
        }

        int setups(int week) {
            int setups = families(week).size();
            for (Item item : items) {
                setups += item.lots[week] > 0 ? 1 : 0;
            }
            return setups;
        }

        int overtime(int week) {
            return Math.max(0, hours(week) - settings[0]);
        }

        void plan() {
            for (Item item : items) {
                for (int week = settings[2]; week < 12; week++) {
                    item.lots[week] = 0;
                }
            }
            for (int week = settings[2]; week < 12; week++) {
                planWeek(week);
            }
        }

        void planWeek(int week) {
            List<Item> order = new ArrayList<>();
            for (Item item : items) {
                if (item.projection(week) < cover(item)) {
                    order.add(item);
                }
            }
            order.sort(Comparator.comparingLong(item -> item.projection(week)));
            for (Item item : order) {
                long units = cover(item) - item.projection(week);
                for (int k = 1; k <= settings[3] - 1; k++) {
                    units += week + k < 12 ? item.forecasts[week + k] : 0;
                }
                long wanted = units / item.size + (units % item.size > 0 ? 1 : 0);
                // One lot after the other, as long as the whole week's hours allow it.
                while (item.lots[week] < wanted && item.lots[week] < 1000) {
                    item.lots[week]++;
                    if (hours(week) > settings[0] + settings[1]) {
                        item.lots[week]--;
                        break;
                    }
                }
            }
        }

        void pass() {
            setups += setups(0);
            overtime += overtime(0);
            costs += (long) settings[5] * setups(0) + (long) settings[8] * overtime(0);
            for (Item item : items) {
                item.stock += item.lots[0] * item.size;
                item.made += item.lots[0] * item.size;
                int coming = item.told == NONE ? item.forecasts[0] : item.told;
                int asked = coming + item.backlog;
                int sent = item.stock < asked ? item.stock : asked;
                item.came += coming;
                item.shipped += sent;
                item.stock -= sent;
                item.backlog = asked - sent;
                item.error = (int) Math.ceil((7.0 * item.error + Math.abs(coming - item.forecasts[0])) / 8);
                costs += (long) settings[6] * item.stock + (long) settings[7] * item.backlog;
                for (int week = 1; week < 12; week++) {
                    item.forecasts[week - 1] = item.forecasts[week];
                    item.lots[week - 1] = item.lots[week];
                }
                item.lots[11] = 0;
                item.told = NONE;
            }
            weeks++;
            plan();
        }
    }

    private State now = new State();
    private final Deque<State> history = new ArrayDeque<>();
    private final State[] slots = new State[2];
    private String pad = "";
    private boolean inText = false;

    private static boolean out(int value, int least, int most) {
        return value < least || value > most;
    }

    private boolean noProduct(int product) {
        return out(product, 0, now.items.size() - 1);
    }

    private void change() {
        if (!inText) {
            history.addLast(now.copy());
            if (history.size() > 6) {
                history.removeFirst();
            }
        }
    }

    int set(int setting, int value) {
        if (out(setting, 0, 8) || out(value, RANGES[setting][0], RANGES[setting][1])) {
            return BAD_VALUE;
        }
        change();
        int before = now.settings[setting];
        now.settings[setting] = value;
        return before;
    }

    int product(int family, int lotSize, int lotHours, int setupHours, int stock) {
        if (out(family, 0, 3) || out(lotSize, 1, 100) || out(lotHours, 1, 50) || out(setupHours, 0, 20)
            || out(stock, 0, 10000)) {
            return BAD_VALUE;
        }
        if (now.items.size() == 10) {
            return TOO_MANY;
        }
        change();
        Item item = new Item();
        item.family = family;
        item.size = lotSize;
        item.lotHours = lotHours;
        item.setupHours = setupHours;
        item.began = stock;
        item.stock = stock;
        now.items.add(item);
        return now.items.size() - 1;
    }

    int family(int family, int hours) {
        if (out(family, 0, 3)) {
            return NO_SUCH;
        }
        if (out(hours, 0, 50)) {
            return BAD_VALUE;
        }
        change();
        int before = now.familyHours[family];
        now.familyHours[family] = hours;
        return before;
    }

    int forecast(int product, int week, int units) {
        if (noProduct(product) || out(week, 0, 11)) {
            return NO_SUCH;
        }
        if (out(units, 0, 1000)) {
            return BAD_VALUE;
        }
        change();
        int before = now.items.get(product).forecasts[week];
        now.items.get(product).forecasts[week] = units;
        return before;
    }

    int actual(int product, int units) {
        if (noProduct(product)) {
            return NO_SUCH;
        }
        if (out(units, 0, 2000) && units != NONE) {
            return BAD_VALUE;
        }
        change();
        int before = now.items.get(product).told;
        now.items.get(product).told = units;
        return before;
    }

    int lots(int product, int week, int lots) {
        if (noProduct(product) || out(week, 0, 11)) {
            return NO_SUCH;
        }
        if (out(lots, 0, 1000)) {
            return BAD_VALUE;
        }
        State then = now.copy();
        then.items.get(product).lots[week] = lots;
        int hours = then.hours(week);
        if (week < now.settings[2]
            || hours > now.settings[0] + now.settings[1] && hours > now.hours(week)) {
            return NOT_POSSIBLE;
        }
        change();
        int before = now.items.get(product).lots[week];
        now = then;
        return before;
    }

    int plan() {
        change();
        now.plan();
        return (int) count(5);
    }

    int weeks(int weeks) {
        if (out(weeks, 1, 30)) {
            return BAD_VALUE;
        }
        change();
        for (int k = 0; k < weeks; k++) {
            now.pass();
        }
        return now.weeks;
    }

    int ofProduct(int product, int what) {
        if (noProduct(product)) {
            return NO_SUCH;
        }
        if (out(what, 0, 12)) {
            return BAD_VALUE;
        }
        Item item = now.items.get(product);
        return new int[] {item.family, item.size, item.lotHours, item.setupHours, item.stock, item.backlog, item.error,
            now.cover(item), item.told, item.made, item.shipped, item.came, item.began}[what];
    }

    int at(int product, int week, int what) {
        if (noProduct(product) || out(week, 0, 11)) {
            return NO_SUCH;
        }
        if (out(what, 0, 1)) {
            return BAD_VALUE;
        }
        Item item = now.items.get(product);
        return (what == 0 ? item.forecasts : item.lots)[week];
    }

    long projection(int product, int week) {
        return noProduct(product) || out(week, 0, 11) ? NO_SUCH : now.items.get(product).projection(week);
    }

    int ofWeek(int week, int what) {
        if (out(week, 0, 11)) {
            return NO_SUCH;
        }
        if (out(what, 0, 4)) {
            return BAD_VALUE;
        }
        int set = 0;
        for (int family : now.families(week)) {
            set += (int) Math.pow(2, family);
        }
        return new int[] {now.hours(week), now.setups(week), now.overtime(week), set,
            week < now.settings[2] ? 1 : 0}[what];
    }

    long count(int what) {
        if (out(what, 0, 22)) {
            return BAD_VALUE;
        }
        if (what >= 10) {
            return what <= 18 ? now.settings[what - 10] : now.familyHours[what - 19];
        }
        long lots = 0;
        long stock = 0;
        long backlog = 0;
        for (Item item : now.items) {
            for (int week = 0; week < 12; week++) {
                lots += item.lots[week];
            }
            stock += item.stock;
            backlog += item.backlog;
        }
        return new long[] {now.weeks, now.items.size(), now.setups, now.overtime, now.costs, lots, stock, backlog,
            pad.length(), history.size()}[what];
    }

    int firstShort(int product) {
        if (noProduct(product)) {
            return NO_SUCH;
        }
        for (int week = 0; week < 12; week++) {
            if (projection(product, week) < 0) {
                return week;
            }
        }
        return NONE;
    }

    int lasts(int product) {
        if (noProduct(product)) {
            return NO_SUCH;
        }
        Item item = now.items.get(product);
        int weeks = 0;
        for (int k = 1; k <= 12; k++) {
            int sum = 0;
            for (int week = 0; week < k; week++) {
                sum += item.forecasts[week];
            }
            if (item.stock - item.backlog >= sum) {
                weeks = k;
            }
        }
        return weeks;
    }

    int leastHours() {
        for (int hours = 0; hours <= 1000; hours += 10) {
            State then = now.copy();
            then.settings[0] = hours;
            then.plan();
            boolean enough = true;
            for (Item item : then.items) {
                for (int week = then.settings[2]; week < 12; week++) {
                    enough &= item.projection(week) >= 0;
                }
            }
            if (enough) {
                return hours;
            }
        }
        return NONE;
    }

    long costs(int fence, int weeks) {
        if (out(fence, 0, 8) || out(weeks, 1, 12)) {
            return BAD_VALUE;
        }
        State then = now.copy();
        then.settings[2] = fence;
        for (Item item : then.items) {
            item.told = item.forecasts[0];
        }
        then.plan();
        for (int k = 0; k < weeks; k++) {
            then.pass();
        }
        return then.costs - now.costs;
    }

    int bestFence(int weeks) {
        if (out(weeks, 1, 12)) {
            return BAD_VALUE;
        }
        int best = 8;
        for (int fence = 7; fence >= 0; fence--) {
            best = costs(fence, weeks) < costs(best, weeks) ? fence : best;
        }
        return best;
    }

    int roomFor(int product, int week) {
        if (noProduct(product) || out(week, 0, 11)) {
            return NO_SUCH;
        }
        State then = now.copy();
        Item item = then.items.get(product);
        int before = item.lots[week];
        while (item.lots[week] < 1000) {
            item.lots[week]++;
            if (then.hours(week) > now.settings[0] + now.settings[1]) {
                return item.lots[week] - before - 1;
            }
        }
        return item.lots[week] - before;
    }

    int put(long characters) {
        StringBuilder signs = new StringBuilder();
        boolean ended = false;
        for (int k = 0; k < 8; k++) {
            int code = (int) (characters >>> 8 * k) & 255;
            ended |= code == 0;
            if (ended ? code != 0 : out(code, 33, 126)) {
                return BAD_VALUE;
            }
            if (!ended) {
                signs.insert(0, (char) code);
            }
        }
        if (signs.length() == 0) {
            return BAD_VALUE;
        }
        if (pad.length() + signs.length() > 80) {
            return TOO_MANY;
        }
        pad += signs;
        return pad.length();
    }

    int wipe() {
        int before = pad.length();
        pad = "";
        return before;
    }

    private static boolean canBecomeText(String start) {
        for (String end : ENDS) {
            if (TEXT.matcher(start + end).matches()) {
                return true;
            }
        }
        return false;
    }

    int fault() {
        for (int k = 0; k < pad.length(); k++) {
            if (!canBecomeText(pad.substring(0, k + 1))) {
                return k;
            }
        }
        return TEXT.matcher(pad).matches() ? NONE : pad.length();
    }

    int carryOut() {
        if (fault() != NONE) {
            return BAD_TEXT;
        }
        change();
        inText = true;
        int carried = 0;
        for (String act : pad.split(";")) {
            int answer = act(act);
            if (answer != NONE && answer < 0) {
                break;
            }
            carried++;
        }
        inText = false;
        pad = "";
        return carried;
    }

    private int act(String act) {
        String[] parts = act.substring(1).split("[@*]");
        switch (act.charAt(0)) {
            case 'f': return forecast(number(parts, 0), number(parts, 1), number(parts, 2));
            case 'l': return lots(number(parts, 0), number(parts, 1), number(parts, 2));
            case 'a': return actual(number(parts, 0), number(parts, 1));
            case 'n': return weeks(number(parts, 0));
            default: return plan();
        }
    }

    private static int number(String[] parts, int k) {
        return Integer.parseInt(parts[k]);
    }

    int undo() {
        if (history.isEmpty()) {
            return NOT_POSSIBLE;
        }
        now = history.removeLast();
        return history.size();
    }

    int save(int slot) {
        if (out(slot, 0, 1)) {
            return BAD_VALUE;
        }
        slots[slot] = now.copy();
        return now.weeks;
    }

    int restore(int slot) {
        if (out(slot, 0, 1)) {
            return BAD_VALUE;
        }
        if (slots[slot] == null) {
            return NOT_POSSIBLE;
        }
        change();
        now = slots[slot].copy();
        return now.weeks;
    }
}
