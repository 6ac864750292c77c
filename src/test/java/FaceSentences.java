import java.lang.reflect.Field;
import java.lang.reflect.Method;
import java.lang.reflect.Modifier;
import java.util.Set;
import java.util.TreeSet;
import java.util.regex.Matcher;
import java.util.regex.Pattern;

/** The section "The public face" line by line, "What it is", and the constants of the section Texts. */
final class FaceSentences extends Sentences {
    private static final String FACE = "The public face";
    private static final Pattern METHOD = Pattern.compile("public (int|long) (\\w+)\\(([^)]*)\\);");
    private static final int MOST_CALLS = 512;

    static void all() throws ReflectiveOperationException {
        methods();
        constructor();
        errorCodes();
        settings();
        nothingElse();
        lastCall();
        codesOfTerms();
        settingsOfTerms();
        noBoundary(FACE, "java public final class LotFences {");
        noBoundary("What it is", "Lots for a row of weeks that rolls on: forecasts and what really comes, products in "
            + "families that share setups, hours and overtime, stock, backlog, a cover that follows the errors of "
            + "forecasts, lots that cover some weeks, plans that are frozen up to a fence and are planned anew behind it, "
            + "costs, forecasts of stock, when stock runs short, the least hours, what other fences would cost, acts "
            + "that are read from texts, undo, and saved states.");
        for (String calls : new String[] {"set, product, family the interface says: ---- setting up.",
            "forecast, actual, lots, plan, weeks the interface says: ---- forecasts, plans.",
            "ofProduct, at, projection, ofWeek, count the interface says: ---- what there is.",
            "firstShort, lasts, leastHours, costs, bestFence, roomFor the interface says: ---- what if; nothing changes.",
            "put, wipe, fault, carryOut the interface says: ---- texts.",
            "undo, save, restore the interface says: ---- undo, saving."}) {
            noBoundary("Texts", "Ahead of the calls " + calls);
        }
        noBoundary("Not promised", section("Not promised"));
    }

    /** Each line is compared with the class: what is returned, and what is taken. */
    private static void methods() {
        Matcher line = METHOD.matcher(section(FACE));
        Set<String> due = new TreeSet<>();
        while (line.find()) {
            sentence(promiseOf(line.group(2)), FACE, line.group());
            String types = line.group(3).replaceAll(" \\w+(?=,|$)", "");
            String head = "public " + line.group(1) + " " + line.group(2) + "(" + types + ")";
            due(head, heads().contains(head) ? 1 : 0, 1);
            due.add(head);
        }
        sentence("2 to 27", FACE, "public int set(int setting, int value);");
        same("the set of all methods", heads().toString(), due.toString());
    }

    private static Set<String> heads() {
        Set<String> heads = new TreeSet<>();
        for (Method method : LotFences.class.getDeclaredMethods()) {
            if (!Modifier.isPrivate(method.getModifiers())) {
                StringBuilder types = new StringBuilder();
                for (Class<?> type : method.getParameterTypes()) {
                    types.append(types.length() == 0 ? "" : ", ").append(type);
                }
                heads.add(Modifier.toString(method.getModifiers()) + " " + method.getReturnType() + " " + method.getName()
                    + "(" + types + ")");
            }
        }
        return heads;
    }

    private static String promiseOf(String name) {
        String[] names = {"set", "product", "family", "forecast", "actual", "lots", "plan", "weeks", "ofProduct", "at",
            "projection", "ofWeek", "count", "firstShort", "lasts", "leastHours", "costs", "bestFence", "roomFor", "put",
            "wipe", "fault", "carryOut", "undo", "save", "restore"};
        for (int k = 0; k < names.length; k++) {
            if (names[k].equals(name)) {
                return Integer.toString(k + 2);
            }
        }
        return "none";
    }

    private static void constructor() {
        sentence("1", FACE, "public LotFences();");
        due("constructors", LotFences.class.getDeclaredConstructors().length, 1);
        due("its arguments", LotFences.class.getDeclaredConstructors()[0].getParameterCount(), 0);
        due("it is public", LotFences.class.getDeclaredConstructors()[0].getModifiers(), Modifier.PUBLIC);
    }

    private static void errorCodes() throws ReflectiveOperationException {
        sentence("2 to 27", FACE, "public static final int NO_SUCH = -1, BAD_VALUE = -2, BAD_TEXT = -3, TOO_MANY = -4, "
            + "NOT_POSSIBLE = -5, NONE = -6;");
        String[] names = {"NO_SUCH", "BAD_VALUE", "BAD_TEXT", "TOO_MANY", "NOT_POSSIBLE", "NONE"};
        for (int k = 0; k < names.length; k++) {
            constant(names[k], -1 - k);
        }
    }

    private static void settings() throws ReflectiveOperationException {
        sentence("2", FACE, "public static final int HOURS = 0, OVERTIME = 1, FENCE = 2, LOOK = 3, FACTOR = 4, SETUP = "
            + "5, HOLD = 6, LATE = 7, OVER = 8;");
        String[] names = {"HOURS", "OVERTIME", "FENCE", "LOOK", "FACTOR", "SETUP", "HOLD", "LATE", "OVER"};
        for (int k = 0; k < names.length; k++) {
            constant(names[k], k);
        }
    }

    private static void constant(String name, int want) throws ReflectiveOperationException {
        Field field = LotFences.class.getField(name);
        due(name, field.getInt(null), want);
        due("modifiers of " + name, field.getModifiers(), Modifier.PUBLIC | Modifier.STATIC | Modifier.FINAL);
    }

    private static void nothingElse() {
        sentence("1", FACE, "}");
        int open = 0;
        for (Field field : LotFences.class.getDeclaredFields()) {
            open += Modifier.isPrivate(field.getModifiers()) ? 0 : 1;
        }
        due("fields that are not private", open, 15);
        due("modifiers of the class", LotFences.class.getModifiers(), Modifier.PUBLIC | Modifier.FINAL);
    }

    /** The last one of 512 calls is answered like the others, and another object begins anew. */
    private static void lastCall() {
        sentence("1", "What it is", "An object is used for at most 512 calls after it has been made; what later "
            + "calls answer is free.");
        LotFences x = one(10, 1, 0, 0);
        x.forecast(0, 11, 7);
        int weeks = 0;
        for (int call = 2; call < MOST_CALLS - 2; call++) {
            x.weeks(30);
            weeks += 30;
        }
        due("the call before the last one", x.ofProduct(0, CAME), (weeks - 11) * 7);
        due("the last call", x.count(0), weeks);
        due("the first call of another object", new LotFences().count(0), 0);
    }

    private static void codesOfTerms() {
        sentence("2 to 27", "Texts", "The constants: NO_SUCH = -1, BAD_VALUE = -2, BAD_TEXT = -3, TOO_MANY = -4, "
            + "NOT_POSSIBLE = -5, NONE = -6: Error codes, and NONE: there is none.");
        due("NO_SUCH", LotFences.NO_SUCH, -1);
        due("BAD_VALUE", LotFences.BAD_VALUE, -2);
        due("BAD_TEXT", LotFences.BAD_TEXT, -3);
        due("TOO_MANY", LotFences.TOO_MANY, -4);
        due("NOT_POSSIBLE", LotFences.NOT_POSSIBLE, -5);
        due("NONE", LotFences.NONE, -6);
    }

    private static void settingsOfTerms() {
        sentence("2", "Texts", "HOURS = 0, OVERTIME = 1, FENCE = 2, LOOK = 3, FACTOR = 4, SETUP = 5, HOLD = 6, "
            + "LATE = 7, OVER = 8: Settings.");
        int[] settings = {LotFences.HOURS, LotFences.OVERTIME, LotFences.FENCE, LotFences.LOOK, LotFences.FACTOR,
            LotFences.SETUP, LotFences.HOLD, LotFences.LATE, LotFences.OVER};
        int[] first = {100, 20, 2, 2, 100, 50, 1, 5, 3};
        LotFences x = new LotFences();
        for (int k = 0; k < settings.length; k++) {
            due("setting " + k, settings[k], k);
            due("set() by its name", x.set(settings[k], 1), first[k]);
        }
    }
}
