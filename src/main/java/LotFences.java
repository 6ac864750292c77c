import java.util.Arrays;

/** Lots for a row of weeks that rolls on, planned anew behind a fence; ../shared/DOC.md says what it does. */
public final class LotFences {
    public static final int NO_SUCH = -1, BAD_VALUE = -2, BAD_TEXT = -3, TOO_MANY = -4, NOT_POSSIBLE = -5, NONE = -6;
    public static final int HOURS = 0, OVERTIME = 1, FENCE = 2, LOOK = 3, FACTOR = 4, SETUP = 5, HOLD = 6, LATE = 7, OVER = 8;

    private static final int[] LEAST_SETTINGS = {0, 0, 0, 1, 0, 0, 0, 0, 0};
    private static final int[] MOST_SETTINGS = {1000, 500, 8, 6, 400, 1000, 100, 100, 100};
    private static final int[] FIRST_SETTINGS = {100, 20, 2, 2, 100, 50, 1, 5, 3};
    private static final int SETTINGS = 9;

    private static final int WEEKS = 12;
    private static final int PRODUCTS = 10;
    private static final int FAMILIES = 4;
    private static final int FIRST_FAMILY_HOURS = 5;
    private static final int MOST_FAMILY_HOURS = 50;
    private static final int MOST_LOT_SIZE = 100;
    private static final int MOST_LOT_HOURS = 50;
    private static final int MOST_SETUP_HOURS = 20;
    private static final int MOST_STOCK = 10000;
    private static final int MOST_FORECAST = 1000;
    private static final int MOST_ACTUAL = 2000;
    private static final int MOST_LOTS = 1000;
    private static final int MOST_WEEKS = 30;
    private static final int MOST_FENCE = 8;
    private static final int MOST_HOURS = 1000;
    private static final int HOURS_STEP = 10;
    private static final int PAD_LENGTH = 80;
    private static final int STATES = 6;
    private static final int SLOTS = 2;

    private final Works works = new Works();
    private final Works trial = new Works();
    private final Pad pad = new Pad();
    private final History history = new History();
    private final Works[] slots = new Works[SLOTS];
    private final boolean[] saved = new boolean[SLOTS];

    public LotFences() {
        for (int slot = 0; slot < SLOTS; slot++) {
            slots[slot] = new Works();
        }
    }

    // ---- setting up

    public int set(int setting, int value) {
        if (!isIn(setting, 0, SETTINGS - 1)) {
            return BAD_VALUE;
        }
        if (!isIn(value, LEAST_SETTINGS[setting], MOST_SETTINGS[setting])) {
            return BAD_VALUE;
        }
        history.remember(works);
        int before = works.setting(setting);
        works.changeSetting(setting, value);
        return before;
    }

    public int product(int family, int lotSize, int lotHours, int setupHours, int stock) {
        if (!isFamily(family) || !isIn(lotSize, 1, MOST_LOT_SIZE) || !isIn(lotHours, 1, MOST_LOT_HOURS)
                || !isIn(setupHours, 0, MOST_SETUP_HOURS) || !isIn(stock, 0, MOST_STOCK)) {
            return BAD_VALUE;
        }
        Product spare = works.spareProduct();
        if (spare == null) {
            return TOO_MANY;
        }
        history.remember(works);
        spare.begin(family, lotSize, lotHours, setupHours, stock);
        int number = works.products;
        works.products = number + 1;
        return number;
    }

    public int family(int family, int hours) {
        if (!isFamily(family)) {
            return NO_SUCH;
        }
        if (!isIn(hours, 0, MOST_FAMILY_HOURS)) {
            return BAD_VALUE;
        }
        history.remember(works);
        int before = works.familyHours[family];
        works.familyHours[family] = hours;
        return before;
    }

    // ---- forecasts, plans

    public int forecast(int product, int week, int units) {
        Product item = works.productAt(product);
        if (item == null || !isWeek(week)) {
            return NO_SUCH;
        }
        if (!isIn(units, 0, MOST_FORECAST)) {
            return BAD_VALUE;
        }
        history.remember(works);
        int before = item.forecasts[week];
        item.forecasts[week] = units;
        return before;
    }

    public int actual(int product, int units) {
        Product item = works.productAt(product);
        if (item == null) {
            return NO_SUCH;
        }
        if (units != NONE && !isIn(units, 0, MOST_ACTUAL)) {
            return BAD_VALUE;
        }
        history.remember(works);
        int before = item.told;
        item.told = units;
        return before;
    }

    public int lots(int product, int week, int lots) {
        Product item = works.productAt(product);
        if (item == null || !isWeek(week)) {
            return NO_SUCH;
        }
        if (!isIn(lots, 0, MOST_LOTS)) {
            return BAD_VALUE;
        }
        int hours = works.hoursWith(week, item, lots);
        if (works.isFrozen(week) || hours > works.capacity() && hours > works.hoursIn(week)) {
            return NOT_POSSIBLE;
        }
        history.remember(works);
        int before = item.lots[week];
        item.lots[week] = lots;
        return before;
    }

    public int plan() {
        history.remember(works);
        works.planAnew();
        return works.allLots();
    }

    public int weeks(int weeks) {
        if (!isIn(weeks, 1, MOST_WEEKS)) {
            return BAD_VALUE;
        }
        history.remember(works);
        for (int k = 0; k < weeks; k++) {
            works.passWeek();
            works.planAnew();
        }
        return works.weeksPassed;
    }

    // ---- what there is

    public int ofProduct(int product, int what) {
        Product item = works.productAt(product);
        if (item == null) {
            return NO_SUCH;
        }
        switch (what) {
            case 0: return item.family;
            case 1: return item.lotSize;
            case 2: return item.lotHours;
            case 3: return item.setupHours;
            case 4: return item.stock;
            case 5: return item.backlog;
            case 6: return item.error;
            case 7: return item.cover(works.setting(FACTOR));
            case 8: return item.told;
            case 9: return item.made;
            case 10: return item.shipped;
            case 11: return item.came;
            case 12: return item.began;
            default: return BAD_VALUE;
        }
    }

    public int at(int product, int week, int what) {
        Product item = works.productAt(product);
        if (item == null || !isWeek(week)) {
            return NO_SUCH;
        }
        if (what == 0) {
            return item.forecasts[week];
        }
        return what == 1 ? item.lots[week] : BAD_VALUE;
    }

    public long projection(int product, int week) {
        Product item = works.productAt(product);
        if (item == null || !isWeek(week)) {
            return NO_SUCH;
        }
        return item.projectionBehind(week);
    }

    public int ofWeek(int week, int what) {
        if (!isWeek(week)) {
            return NO_SUCH;
        }
        switch (what) {
            case 0: return works.hoursIn(week);
            case 1: return works.setupsIn(week);
            case 2: return works.overtimeIn(week);
            case 3: return works.familiesIn(week);
            case 4: return works.isFrozen(week) ? 1 : 0;
            default: return BAD_VALUE;
        }
    }

    public long count(int what) {
        switch (what) {
            case 0: return works.weeksPassed;
            case 1: return works.products;
            case 2: return works.setupsSoFar;
            case 3: return works.overtimeSoFar;
            case 4: return works.costsSoFar;
            case 5: return works.allLots();
            case 6: return works.allStock();
            case 7: return works.allBacklog();
            case 8: return pad.length;
            case 9: return history.size;
            default: break;
        }
        int setting = what - 10;
        if (isIn(setting, 0, SETTINGS - 1)) {
            return works.setting(setting);
        }
        int family = setting - SETTINGS;
        return isFamily(family) ? works.familyHours[family] : BAD_VALUE;
    }

    // ---- what if; nothing changes

    public int firstShort(int product) {
        Product item = works.productAt(product);
        if (item == null) {
            return NO_SUCH;
        }
        for (int week = 0; week < WEEKS; week++) {
            if (item.projectionBehind(week) < 0) {
                return week;
            }
        }
        return NONE;
    }

    public int lasts(int product) {
        Product item = works.productAt(product);
        if (item == null) {
            return NO_SUCH;
        }
        long left = (long) item.stock - item.backlog;
        for (int week = 0; week < WEEKS; week++) {
            left -= item.forecasts[week];
            if (left < 0) {
                return week;
            }
        }
        return WEEKS;
    }

    public int leastHours() {
        trial.copyFrom(works);
        // More hours may serve worse (a product that is first takes them all), so nothing can be skipped.
        for (int hours = 0; hours <= MOST_HOURS; hours += HOURS_STEP) {
            trial.changeSetting(HOURS, hours);
            if (trial.plansWithoutShortage()) {
                return hours;
            }
        }
        return NONE;
    }

    public long costs(int fence, int weeks) {
        if (!isIn(fence, 0, MOST_FENCE) || !isIn(weeks, 1, WEEKS)) {
            return BAD_VALUE;
        }
        trial.copyFrom(works);
        trial.changeSetting(FENCE, fence);
        trial.forgetTold();
        trial.planAnew();
        for (int k = 0; k < weeks; k++) {
            trial.passWeek();
            trial.planAnew();
        }
        return trial.costsSoFar - works.costsSoFar;
    }

    public int bestFence(int weeks) {
        if (!isIn(weeks, 1, WEEKS)) {
            return BAD_VALUE;
        }
        int best = 0;
        long least = costs(0, weeks);
        for (int fence = 1; fence <= MOST_FENCE; fence++) {
            long costs = costs(fence, weeks);
            if (costs <= least) {
                best = fence;
                least = costs;
            }
        }
        return best;
    }

    public int roomFor(int product, int week) {
        Product item = works.productAt(product);
        if (item == null || !isWeek(week)) {
            return NO_SUCH;
        }
        int planned = item.lots[week];
        // The first lot more may need setups; each one behind it needs its own hours only.
        int left = works.capacity() - works.hoursWith(week, item, planned + 1);
        if (left < 0 || item.lotHours < 1) {
            return 0;
        }
        return Math.min(1 + left / item.lotHours, MOST_LOTS - planned);
    }

    // ---- texts

    public int put(long characters) {
        int more = Pad.signsIn(characters);
        if (more == 0) {
            return BAD_VALUE;
        }
        if (pad.length + more > PAD_LENGTH) {
            return TOO_MANY;
        }
        pad.append(characters, more);
        return pad.length;
    }

    public int wipe() {
        int before = pad.length;
        pad.length = 0;
        return before;
    }

    public int fault() {
        pad.startReading();
        for (int k = 0; k < PAD_LENGTH; k++) {
            if (!pad.readAct()) {
                return pad.place;
            }
            if (pad.isAtEnd()) {
                return NONE;
            }
            if (!pad.readSign(';')) {
                return pad.place;
            }
        }
        return pad.place;
    }

    public int carryOut() {
        if (fault() != NONE) {
            return BAD_TEXT;
        }
        history.remember(works);
        history.paused = true;
        pad.startReading();
        int carried = 0;
        while (carried < PAD_LENGTH && pad.readAct() && !isError(carryAct())) {
            carried++;
            if (!pad.readSign(';')) {
                break;
            }
        }
        history.paused = false;
        pad.length = 0;
        return carried;
    }

    // ---- undo, saving

    public int undo() {
        if (history.size == 0) {
            return NOT_POSSIBLE;
        }
        history.takeBack(works);
        return history.size;
    }

    public int save(int slot) {
        if (!isIn(slot, 0, SLOTS - 1)) {
            return BAD_VALUE;
        }
        Works kept = slots[slot];
        if (kept != null) {
            kept.copyFrom(works);
            saved[slot] = true;
        }
        return works.weeksPassed;
    }

    public int restore(int slot) {
        if (!isIn(slot, 0, SLOTS - 1)) {
            return BAD_VALUE;
        }
        if (!saved[slot]) {
            return NOT_POSSIBLE;
        }
        history.remember(works);
        works.copyFrom(slots[slot]);
        return works.weeksPassed;
    }

    // ---- help for the calls above

    private int carryAct() {
        if (pad.kind == 'f') {
            return forecast(pad.product, pad.week, pad.number);
        }
        if (pad.kind == 'a') {
            return actual(pad.product, pad.number);
        }
        if (pad.kind == 'l') {
            return lots(pad.product, pad.week, pad.number);
        }
        return pad.kind == 'p' ? plan() : weeks(pad.number);
    }

    private static boolean isError(int answer) {
        return answer < 0 && answer != NONE;
    }

    private static boolean isIn(int value, int least, int most) {
        return value >= least && value <= most;
    }

    private static boolean isWeek(int week) {
        return week >= 0 && week < WEEKS;
    }

    private static boolean isFamily(int family) {
        return family >= 0 && family < FAMILIES;
    }

    /** A product: what it is, what it has, and its rows of forecasts and planned lots. */
    private static final class Product {
        int family;
        int lotSize;
        int lotHours;
        int setupHours;
        int began;
        int stock;
        int backlog;
        int error;
        int told;
        int made;
        int shipped;
        int came;
        final int[] forecasts = new int[WEEKS];
        final int[] lots = new int[WEEKS];
        // Working values of a planning that is under way; they are no part of the state and are never copied.
        long behind;
        int aim;
        boolean waiting;

        void begin(int family, int lotSize, int lotHours, int setupHours, int stock) {
            this.family = family;
            this.lotSize = lotSize;
            this.lotHours = lotHours;
            this.setupHours = setupHours;
            this.began = stock;
            this.stock = stock;
            backlog = 0;
            error = 0;
            told = NONE;
            made = 0;
            shipped = 0;
            came = 0;
            Arrays.fill(forecasts, 0);
            Arrays.fill(lots, 0);
        }

        void copyFrom(Product other) {
            family = other.family;
            lotSize = other.lotSize;
            lotHours = other.lotHours;
            setupHours = other.setupHours;
            began = other.began;
            stock = other.stock;
            backlog = other.backlog;
            error = other.error;
            told = other.told;
            made = other.made;
            shipped = other.shipped;
            came = other.came;
            System.arraycopy(other.forecasts, 0, forecasts, 0, WEEKS);
            System.arraycopy(other.lots, 0, lots, 0, WEEKS);
        }

        int cover(int factor) {
            return error * factor / 100;
        }

        int lotsIn(int week) {
            return week >= 0 && week < WEEKS ? lots[week] : 0;
        }

        int lotsInAll() {
            int sum = 0;
            for (int week = 0; week < WEEKS; week++) {
                sum += lots[week];
            }
            return sum;
        }

        /** Behind the week -1 it is what there is now. */
        long projectionBehind(int week) {
            long units = (long) stock - backlog;
            for (int k = 0; k <= week && k < WEEKS; k++) {
                units += (long) lots[k] * lotSize - forecasts[k];
            }
            return units;
        }

        void openPlan(int fence) {
            behind = projectionBehind(fence - 1);
            for (int week = Math.max(fence, 0); week < WEEKS; week++) {
                lots[week] = 0;
            }
        }

        void enterWeek(int week, int factor) {
            if (week >= 0 && week < WEEKS) {
                behind -= forecasts[week];
            }
            aim = cover(factor);
            waiting = behind < aim;
        }

        long lotsWanted(int week, int look) {
            if (lotSize < 1) {
                return 0;
            }
            long units = aim - behind;
            for (int k = week + 1; k < week + look && k >= 0 && k < WEEKS; k++) {
                units += forecasts[k];
            }
            return (units + lotSize - 1) / lotSize;
        }

        void planLots(int week, int planned) {
            if (week >= 0 && week < WEEKS) {
                lots[week] = planned;
                behind += (long) planned * lotSize;
            }
        }

        void passWeek() {
            int arrived = lots[0] * lotSize;
            made += arrived;
            stock += arrived;
            int coming = told == NONE ? forecasts[0] : told;
            came += coming;
            int asked = coming + backlog;
            int sent = Math.min(asked, stock);
            shipped += sent;
            stock -= sent;
            backlog = asked - sent;
            error = (7 * error + Math.abs(coming - forecasts[0]) + 7) / 8;
            // The last forecast is left where it was, so that it stands for the new last week, too.
            System.arraycopy(forecasts, 1, forecasts, 0, WEEKS - 1);
            System.arraycopy(lots, 1, lots, 0, WEEKS - 1);
            lots[WEEKS - 1] = 0;
            told = NONE;
        }
    }

    /** All that undo and the slots bring back: settings, products and what was counted so far. */
    private static final class Works {
        final int[] settings = FIRST_SETTINGS.clone();
        final int[] familyHours = new int[FAMILIES];
        final Product[] items = new Product[PRODUCTS];
        int products;
        int weeksPassed;
        long setupsSoFar;
        long overtimeSoFar;
        long costsSoFar;
        // Working values of the week that is being planned.
        private int hoursLeft;
        private int familiesSetUp;

        Works() {
            Arrays.fill(familyHours, FIRST_FAMILY_HOURS);
            for (int p = 0; p < PRODUCTS; p++) {
                items[p] = new Product();
            }
        }

        void copyFrom(Works other) {
            if (other == null) {
                return;
            }
            System.arraycopy(other.settings, 0, settings, 0, SETTINGS);
            System.arraycopy(other.familyHours, 0, familyHours, 0, FAMILIES);
            products = other.products;
            for (int p = 0; p < products; p++) {
                Product item = productAt(p);
                Product source = other.productAt(p);
                if (item != null && source != null) {
                    item.copyFrom(source);
                }
            }
            weeksPassed = other.weeksPassed;
            setupsSoFar = other.setupsSoFar;
            overtimeSoFar = other.overtimeSoFar;
            costsSoFar = other.costsSoFar;
        }

        Product productAt(int number) {
            return number >= 0 && number < products && number < PRODUCTS ? items[number] : null;
        }

        Product spareProduct() {
            return products >= 0 && products < PRODUCTS ? items[products] : null;
        }

        int setting(int setting) {
            return setting >= 0 && setting < SETTINGS ? settings[setting] : 0;
        }

        void changeSetting(int setting, int value) {
            if (setting >= 0 && setting < SETTINGS) {
                settings[setting] = value;
            }
        }

        int capacity() {
            return setting(HOURS) + setting(OVERTIME);
        }

        boolean isFrozen(int week) {
            return week < setting(FENCE);
        }

        int hoursIn(int week) {
            return hoursWith(week, null, 0);
        }

        /** The hours of a week if one of the products had so many lots in it. */
        int hoursWith(int week, Product changed, int changedLots) {
            int hours = 0;
            int families = 0;
            for (int p = 0; p < products; p++) {
                Product item = productAt(p);
                if (item != null) {
                    int lots = item == changed ? changedLots : item.lotsIn(week);
                    if (lots > 0) {
                        hours += item.setupHours + lots * item.lotHours;
                        families |= 1 << item.family;
                    }
                }
            }
            for (int family = 0; family < FAMILIES; family++) {
                if ((families >> family & 1) != 0) {
                    hours += familyHours[family];
                }
            }
            return hours;
        }

        int familiesIn(int week) {
            int families = 0;
            for (int p = 0; p < products; p++) {
                Product item = productAt(p);
                if (item != null && item.lotsIn(week) > 0) {
                    families |= 1 << item.family;
                }
            }
            return families;
        }

        int setupsIn(int week) {
            int setups = Integer.bitCount(familiesIn(week));
            for (int p = 0; p < products; p++) {
                Product item = productAt(p);
                if (item != null && item.lotsIn(week) > 0) {
                    setups++;
                }
            }
            return setups;
        }

        int overtimeIn(int week) {
            return Math.max(0, hoursWith(week, null, 0) - setting(HOURS));
        }

        int allLots() {
            int sum = 0;
            for (int p = 0; p < products; p++) {
                Product item = productAt(p);
                if (item != null) {
                    sum += item.lotsInAll();
                }
            }
            return sum;
        }

        long allStock() {
            long sum = 0;
            for (int p = 0; p < products; p++) {
                Product item = productAt(p);
                if (item != null) {
                    sum += item.stock;
                }
            }
            return sum;
        }

        long allBacklog() {
            long sum = 0;
            for (int p = 0; p < products; p++) {
                Product item = productAt(p);
                if (item != null) {
                    sum += item.backlog;
                }
            }
            return sum;
        }

        void forgetTold() {
            for (int p = 0; p < products; p++) {
                Product item = productAt(p);
                if (item != null) {
                    item.told = NONE;
                }
            }
        }

        void planAnew() {
            openPlans();
            for (int week = setting(FENCE); week < WEEKS; week++) {
                planWeek(week);
            }
        }

        /** Plans anew, but gives up (with half a plan) at the first projection below 0: no later week mends it. */
        boolean plansWithoutShortage() {
            openPlans();
            for (int week = setting(FENCE); week < WEEKS; week++) {
                planWeek(week);
                if (isShort()) {
                    return false;
                }
            }
            return true;
        }

        private void openPlans() {
            int fence = setting(FENCE);
            for (int p = 0; p < products; p++) {
                Product item = productAt(p);
                if (item != null) {
                    item.openPlan(fence);
                }
            }
        }

        private void planWeek(int week) {
            int factor = setting(FACTOR);
            for (int p = 0; p < products; p++) {
                Product item = productAt(p);
                if (item != null) {
                    item.enterWeek(week, factor);
                }
            }
            hoursLeft = capacity();
            familiesSetUp = 0;
            for (int turn = 0; turn < PRODUCTS; turn++) {
                Product next = nextWaiting();
                if (next == null) {
                    return;
                }
                next.waiting = false;
                giveLots(next, week);
            }
        }

        private Product nextWaiting() {
            Product next = null;
            for (int p = 0; p < products; p++) {
                Product item = productAt(p);
                if (item != null && item.waiting && (next == null || item.behind < next.behind)) {
                    next = item;
                }
            }
            return next;
        }

        private void giveLots(Product item, int week) {
            int bit = 1 << item.family;
            int room = hoursLeft - item.setupHours;
            if ((familiesSetUp & bit) == 0 && isFamily(item.family)) {
                room -= familyHours[item.family];
            }
            if (item.lotHours < 1 || room < item.lotHours) {
                return;
            }
            long wanted = item.lotsWanted(week, setting(LOOK));
            int given = (int) Math.min(wanted, Math.min(room / item.lotHours, MOST_LOTS));
            item.planLots(week, given);
            hoursLeft = room - given * item.lotHours;
            familiesSetUp |= bit;
        }

        private boolean isShort() {
            for (int p = 0; p < products; p++) {
                Product item = productAt(p);
                if (item != null && item.behind < 0) {
                    return true;
                }
            }
            return false;
        }

        /** Steps 1 to 5 of a week that passes; the planning behind them is the caller's. */
        void passWeek() {
            int setups = setupsIn(0);
            int overtime = overtimeIn(0);
            for (int p = 0; p < products; p++) {
                Product item = productAt(p);
                if (item != null) {
                    item.passWeek();
                }
            }
            setupsSoFar += setups;
            overtimeSoFar += overtime;
            costsSoFar += (long) setups * setting(SETUP) + (long) overtime * setting(OVER)
                    + allStock() * setting(HOLD) + allBacklog() * setting(LATE);
            weeksPassed++;
        }
    }

    /** The states before the latest changes, the oldest one first. */
    private static final class History {
        private final Works[] states = new Works[STATES];
        int size;
        // The acts of a text record nothing by themselves: the text is one change.
        boolean paused;

        History() {
            for (int k = 0; k < STATES; k++) {
                states[k] = new Works();
            }
        }

        void remember(Works works) {
            if (paused) {
                return;
            }
            if (size >= STATES) {
                dropOldest();
            }
            if (size >= 0 && size < STATES && states[size] != null) {
                states[size].copyFrom(works);
                size++;
            }
        }

        void takeBack(Works works) {
            if (size > 0 && size <= STATES) {
                size--;
                works.copyFrom(states[size]);
            }
        }

        private void dropOldest() {
            // Its object goes to the end of the row, to be used again.
            Works oldest = states[0];
            for (int k = 1; k < STATES; k++) {
                states[k - 1] = states[k];
            }
            states[STATES - 1] = oldest;
            size = STATES - 1;
        }
    }

    /** The text, and a reader that goes through it act by act. */
    private static final class Pad {
        private static final int CODE_BITS = 8;
        private static final int CODE_MASK = 255;
        private static final int MOST_CODES = 8;
        private static final int MOST_DIGITS = 4;

        private final char[] signs = new char[PAD_LENGTH];
        int length;
        // Where the reader stands; if it could not read on, this is the fault.
        int place;
        char kind;
        int product;
        int week;
        int number;

        /** How many characters a number for put() holds; 0 if it is no such number. */
        static int signsIn(long characters) {
            int found = 0;
            long rest = characters;
            for (int k = 0; k < MOST_CODES && rest != 0; k++) {
                long code = rest & CODE_MASK;
                if (code < 33 || code > 126) {
                    return 0;
                }
                found++;
                rest >>>= CODE_BITS;
            }
            return found;
        }

        void append(long characters, int more) {
            for (int k = Math.min(more, MOST_CODES) - 1; k >= 0; k--) {
                if (length >= 0 && length < PAD_LENGTH) {
                    signs[length] = (char) (characters >>> (k * CODE_BITS) & CODE_MASK);
                    length++;
                }
            }
        }

        void startReading() {
            place = 0;
        }

        boolean isAtEnd() {
            return place >= length;
        }

        boolean readAct() {
            kind = signHere();
            if (readSign('f') || readSign('l')) {
                return readProduct() && readSign('@') && readWeek() && readSign('*') && readNumber();
            }
            if (readSign('a')) {
                return readProduct() && readSign('*') && readNumber();
            }
            if (readSign('n')) {
                return readNumber();
            }
            return readSign('p');
        }

        boolean readSign(char sign) {
            if (signHere() != sign) {
                return false;
            }
            place++;
            return true;
        }

        private boolean readProduct() {
            product = digitHere();
            if (product < 0) {
                return false;
            }
            place++;
            return true;
        }

        private boolean readWeek() {
            boolean read = readNumber();
            week = number;
            return read;
        }

        /** Stops behind a leading zero and behind the last digit: one more is then a fault of what follows. */
        private boolean readNumber() {
            if (digitHere() < 0) {
                return false;
            }
            number = 0;
            for (int k = 0; k < MOST_DIGITS && digitHere() >= 0; k++) {
                number = number * 10 + digitHere();
                place++;
                if (number == 0) {
                    break;
                }
            }
            return true;
        }

        private int digitHere() {
            char sign = signHere();
            return sign >= '0' && sign <= '9' ? sign - '0' : -1;
        }

        /** The character 0 stands for the end: put() lets none of it in. */
        private char signHere() {
            return place >= 0 && place < length && place < PAD_LENGTH ? signs[place] : 0;
        }
    }
}
