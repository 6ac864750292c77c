/** The section Texts of the Terms, and the promises 21 to 24. */
final class TextSentences extends Sentences {
    static void all() {
        longestPad();
        rowOfActs();
        formsOfActs();
        meaningOfActs();
        digit();
        number();
        faultIsTheFirst();
        tooEarly();
        putAppends();
        putOrder();
        putNothingAbove();
        putOneToEight();
        putReturnsLength();
        putNoCharacter();
        putCodes();
        putBitsAbove();
        putTooMany();
        wipe();
        fault();
        carryOutInOrder();
        carryOutUpToAnError();
        carryOutEmpties();
        carryOutIsOneChange();
        carryOutReturns();
        carryOutBadText();
    }

    private static LotFences with(String text) {
        LotFences x = new LotFences();
        Due.put(x, text);
        return x;
    }

    private static void faultOf(String text, int want) {
        due("fault() of \"" + text + "\"", with(text).fault(), want);
    }

    /** A text of so many characters without a fault. */
    private static String textOf(int length) {
        StringBuilder text = new StringBuilder(length % 2 == 0 ? "n1" : "p");
        while (text.length() < length) {
            text.append(";p");
        }
        return text.toString();
    }

    private static void longestPad() {
        sentence("21, 23, 24", "Texts", "The pad is a text of at most 80 characters, a row of acts:");
        LotFences x = with(textOf(80));
        due("count(8)", x.count(8), 80);
        due("fault() of 80 characters", x.fault(), NONE);
        due("one more", x.put(';'), TOO_MANY);
        due("carryOut() of 80 characters", x.carryOut(), 40);
        due("count(8) then", x.count(8), 0);
        LotFences y = with(textOf(79));
        due("fault() of 79 characters", y.fault(), NONE);
        due("the eightieth", y.put(';'), 80);
        due("fault() then", y.fault(), 80);
    }

    private static void rowOfActs() {
        sentence("23", "Texts", "text text = act { \";\" act }");
        for (String text : new String[] {"p", "p;p", "p;n1;p", "a0*1;p", "p;a0*1", "n1;n1", "f0@0*0;l0@0*0;a0*0;p;n0"}) {
            faultOf(text, NONE);
        }
        faultOf(";", 0);
        faultOf("p;;p", 2);
        faultOf("p,p", 1);
        faultOf("pp", 1);
        faultOf("p;p;", 4);
        faultOf("n1p", 2);
    }

    private static void formsOfActs() {
        sentence("23", "Texts", "act = \"f\" digit \"@\" number \"*\" number | \"a\" digit \"*\" number | \"l\" "
            + "digit \"@\" number \"*\" number | \"p\" | \"n\" number");
        act("f3@11*250", "@*");
        act("l3@11*250", "@*");
        act("a3*250", "*");
        act("n250", "");
        act("p", "");
        for (int code = 33; code <= 126; code++) {
            faultOf(Character.toString(code), "falpn".indexOf(code) < 0 ? 0 : code == 'p' ? NONE : 1);
        }
        faultOf("F0@0*0", 0);
        faultOf("a0@0*0", 2);
        faultOf("f0*0", 2);
        faultOf("n0@0", 2);
        faultOf("p0", 1);
    }

    /** Whole it has no fault; cut it ends too early; with another sign for one of its own it has the fault there. */
    private static void act(String act, String signs) {
        faultOf(act, NONE);
        for (int k = 0; k < act.length(); k++) {
            boolean digits = Character.isDigit(act.charAt(k));
            if (k == 0 || !digits || signs.indexOf(act.charAt(k - 1)) >= 0) {
                faultOf(act.substring(0, k), k);
            }
            faultOf(act.substring(0, k) + "x" + act.substring(k + 1), k);
            faultOf(act.substring(0, k) + "+" + act.substring(k + 1), k);
        }
    }

    private static void meaningOfActs() {
        sentence("24", "Texts", "\"f\": forecast() of a product in a week, the units; \"a\": actual() of a "
            + "product; \"l\": lots() of a product in a week; \"p\": plan(); \"n\": so many weeks().");
        LotFences x = new LotFences();
        for (int product = 0; product < 10; product++) {
            x.product(product % 4, 10, 1, 0, 0);
        }
        Due.put(x, "f0@11*1000;f9@0*7;a9*2000;a1*0;l9@11*30;l2@2*1");
        due("carryOut()", x.carryOut(), 6);
        due("f0@11*1000", x.at(0, 11, FORECAST), 1000);
        due("f9@0*7", x.at(9, 0, FORECAST), 7);
        due("a9*2000", x.ofProduct(9, TOLD), 2000);
        due("a1*0", x.ofProduct(1, TOLD), 0);
        due("l9@11*30", x.at(9, 11, LOTS), 30);
        due("l2@2*1", x.at(2, 2, LOTS), 1);
        due("nothing else is told", x.ofProduct(0, TOLD), NONE);
        Due.put(x, "p");
        due("carryOut() of p", x.carryOut(), 1);
        due("at(0, 11, 1) behind p", x.at(0, 11, LOTS), 100);
        due("at(9, 11, 1) behind p", x.at(9, 11, LOTS), 0);
        Due.put(x, "n30;n1");
        due("carryOut() of n30;n1", x.carryOut(), 2);
        due("weeks that have passed", x.count(0), 31);
    }

    private static void digit() {
        sentence("23", "Texts", "A digit is 0 to 9.");
        for (char sign = '0'; sign <= '9'; sign++) {
            faultOf("a" + sign + "*1", NONE);
            faultOf("f" + sign + "@1*1", NONE);
            faultOf("l" + sign + "@1*1", NONE);
            faultOf("n1" + sign, NONE);
        }
        for (char sign : new char[] {'/', ':', 'a', 'p', '*', '@', ';', '-'}) {
            faultOf("a" + sign + "*1", 1);
            faultOf("f" + sign + "@1*1", 1);
            faultOf("l" + sign + "@1*1", 1);
            faultOf("n" + sign, 1);
        }
        faultOf("a10*1", 2);
        faultOf("f00@1*1", 2);
    }

    private static void number() {
        sentence("23", "Texts", "A number is 0 to 9999, without leading zeros.");
        for (String start : new String[] {"n", "a0*", "f0@1*", "l0@1*"}) {
            for (String number : new String[] {"0", "1", "9", "10", "99", "100", "999", "1000", "9999"}) {
                faultOf(start + number, NONE);
            }
            faultOf(start + "00", start.length() + 1);
            faultOf(start + "01", start.length() + 1);
            faultOf(start + "0001", start.length() + 1);
            faultOf(start + "10000", start.length() + 4);
            faultOf(start + "99999", start.length() + 4);
        }
        for (String start : new String[] {"f0@", "l0@"}) {
            faultOf(start + "0*1", NONE);
            faultOf(start + "9999*1", NONE);
            faultOf(start + "00*1", start.length() + 1);
            faultOf(start + "10000*1", start.length() + 4);
        }
    }

    private static void faultIsTheFirst() {
        sentence("23", "Texts", "The fault is the index of the first character that cannot stand at its place when "
            + "the text is read from left to right (also of a digit by which a number would be above 9999);");
        faultOf("x", 0);
        faultOf("px", 1);
        faultOf("p;x;x", 2);
        faultOf("p;n12;a1@5", 8);
        faultOf("f1@2*3;q", 7);
        faultOf("n9999", NONE);
        faultOf("n10000", 5);
        faultOf("n10000;x", 5);
        faultOf("p;f0@10000*1", 9);
        faultOf("a0*12345", 7);
        faultOf(textOf(79) + "x", 79);
        faultOf(textOf(75) + ";n123", NONE);
        faultOf(textOf(74) + ";n1234", NONE);
        faultOf(textOf(73) + ";n12345", 79);
    }

    private static void tooEarly() {
        sentence("23", "Texts", "if there is none and the text ends too early (also if it is empty), it is the "
            + "length of the text.");
        String[] texts = {"", "a", "a0", "a0*", "f", "f0", "f0@", "f0@1", "f0@11", "f0@1*", "l", "l0", "l0@", "l0@0",
            "l0@0*", "n", "p;", "n1;", "a0*1;", "p;a", "p;p;n"};
        for (String text : texts) {
            faultOf(text, text.length());
        }
        faultOf(textOf(78) + ";n", 80);
        faultOf(textOf(79) + ";", 80);
        LotFences x = with("p");
        x.wipe();
        due("fault() of a pad that was emptied", x.fault(), 0);
    }

    private static void putAppends() {
        sentence(21, "Appends characters to the pad.");
        LotFences x = with("n");
        x.put('1');
        due("fault() of n1", x.fault(), NONE);
        x.put('2');
        due("fault() of n12", x.fault(), NONE);
        x.put(';');
        x.put(0x7078L);
        due("fault() of n12;px", x.fault(), 5);
    }

    private static void putOrder() {
        sentence(21, "They are given as a number: its lowest 8 bits are the last character, the next 8 bits the "
            + "one before, and so on;");
        LotFences x = one(1, 1, 0, 0);
        due("put(\"a0*1234\")", x.put(0x61302a31323334L), 7);
        due("fault()", x.fault(), NONE);
        due("carryOut(), 1234 units", x.carryOut(), 1);
        due("told", x.ofProduct(0, TOLD), 1234);
        due("put(\"f0@11*98\")", x.put(0x66304031312a3938L), 8);
        due("carryOut()", x.carryOut(), 1);
        due("at(0, 11, 0)", x.at(0, 11, FORECAST), 98);
        LotFences y = new LotFences();
        y.put(0x316eL);
        due("fault() of 1n", y.fault(), 0);
    }

    private static void putNothingAbove() {
        sentence(21, "8 bits that are 0 mean that there are no more characters, and everything above them has to "
            + "be 0, too.");
        LotFences x = new LotFences();
        due("one character", x.put(0x70L), 1);
        due("two", x.put(0x3b70L), 3);
        due("seven", x.put(0x3b703b703b703bL), 10);
        long[] wrong = {0x700070L, 0x7000L, 0x70000070L, 0x7000000000000070L, 0x0100000000000070L, 0x8000000000000070L};
        for (long characters : wrong) {
            due("put(" + Long.toHexString(characters) + ")", x.put(characters), BAD_VALUE);
        }
        due("count(8)", x.count(8), 10);
    }

    private static void putOneToEight() {
        sentence(21, "characters: 1 to 8 characters");
        long all = 0x703b703b703b703bL;
        for (int signs = 1; signs <= 8; signs++) {
            LotFences x = new LotFences();
            due("put() of " + signs, x.put(all >>> 8 * (8 - signs)), signs);
            due("count(8)", x.count(8), signs);
            due("fault()", x.fault(), signs % 2 == 1 ? NONE : signs);
        }
        due("put() of none", new LotFences().put(0), BAD_VALUE);
    }

    private static void putReturnsLength() {
        sentence(21, "Returns the length of the pad then;");
        LotFences x = new LotFences();
        for (int k = 1; k <= 10; k++) {
            due("put() of 8", x.put(0x703b703b703b703bL), 8 * k);
        }
        x.wipe();
        due("put() of 1 behind wipe()", x.put('p'), 1);
        x.carryOut();
        due("put() of 2 behind carryOut()", x.put(0x703bL), 2);
        due("count(8)", x.count(8), 2);
    }

    private static void putNoCharacter() {
        sentence(21, "BAD_VALUE if there is no character,");
        LotFences x = new LotFences();
        due("put(0) on an empty pad", x.put(0), BAD_VALUE);
        Due.put(x, textOf(80));
        due("put(0) on a full pad", x.put(0), BAD_VALUE);
        due("count(8)", x.count(8), 80);
    }

    private static void putCodes() {
        sentence(21, "a code is not 33 to 126,");
        for (int code = 0; code <= 255; code++) {
            boolean fine = code >= 33 && code <= 126;
            LotFences x = new LotFences();
            due("put(" + code + ")", x.put(code), fine ? 1 : BAD_VALUE);
            due("put() of " + code + " as the last of three", x.put(0x707000L | code), fine ? 4 : BAD_VALUE);
            due("put() of " + code + " as the first of eight", x.put((long) code << 56 | 0x70707070707070L),
                fine ? 12 : code == 0 ? 7 : BAD_VALUE);
        }
    }

    private static void putBitsAbove() {
        sentence(21, "or a bit above 8 bits that are 0 is not 0;");
        LotFences x = new LotFences();
        for (int bit = 16; bit < 64; bit++) {
            due("put() of p and the bit " + bit, x.put(0x70L | 1L << bit), BAD_VALUE);
        }
        for (int bit = 8; bit < 64; bit++) {
            due("put() of the bit " + bit + " alone", x.put(1L << bit), BAD_VALUE);
        }
        due("count(8)", x.count(8), 0);
    }

    private static void putTooMany() {
        sentence(21, "TOO_MANY if the pad would be longer than 80.");
        for (int signs = 1; signs <= 8; signs++) {
            LotFences x = with(textOf(80 - signs));
            long more = 0x3b703b703b703b70L >>> 8 * (8 - signs);
            if (signs < 8) {
                due("put() of " + (signs + 1) + " on " + (80 - signs), x.put(more << 8 | 'p'), TOO_MANY);
            }
            due("count(8)", x.count(8), 80 - signs);
            due("put() of " + signs + " on " + (80 - signs), x.put(more), 80);
            due("put() of one on 80", x.put('p'), TOO_MANY);
            due("count(8) then", x.count(8), 80);
        }
    }

    private static void wipe() {
        sentence(22, "Empties the pad, and returns the length that it had.");
        LotFences x = new LotFences();
        due("wipe() of an empty pad", x.wipe(), 0);
        x.put('x');
        due("wipe() of one character", x.wipe(), 1);
        due("count(8)", x.count(8), 0);
        due("fault()", x.fault(), 0);
        Due.put(x, textOf(80));
        due("wipe() of a full pad", x.wipe(), 80);
        due("wipe() again", x.wipe(), 0);
        due("changes", x.count(9), 0);
        due("put() then", x.put('p'), 1);
        due("fault() then", x.fault(), NONE);
    }

    private static void fault() {
        sentence(23, "Returns the fault of the pad, NONE if there is none.");
        LotFences x = new LotFences();
        due("fault() of an empty pad", x.fault(), 0);
        x.put('n');
        due("fault() of n", x.fault(), 1);
        x.put('7');
        due("fault() of n7", x.fault(), NONE);
        due("fault() again", x.fault(), NONE);
        due("the pad stays", x.count(8), 2);
        due("nothing is carried out", x.count(0), 0);
        x.put('x');
        due("fault() of n7x", x.fault(), 2);
        due("fault() of n7x again", x.fault(), 2);
        due("changes", x.count(9), 0);
        due("a fault that act and product do not matter for", with("f9@99*9999").fault(), NONE);
    }

    private static void carryOutInOrder() {
        sentence(24, "Carries the acts of the pad out, one after the other,");
        LotFences x = one(10, 1, 0, 50);
        Due.put(x, "f0@0*5;f0@0*6;n1;a0*9;n1;f0@3*99;p;l0@5*3;f0@3*0");
        due("carryOut()", x.carryOut(), 9);
        due("6, and then 9 came", x.ofProduct(0, CAME), 15);
        due("weeks", x.count(0), 2);
        due("planned before the forecast was 0 again", x.at(0, 3, LOTS), 7);
        due("planned by l behind p", x.at(0, 5, LOTS), 3);
        due("the last one", x.at(0, 3, FORECAST), 0);
    }

    private static void stops(String act, boolean error) {
        LotFences x = one(10, 4, 2, 50);
        Due.put(x, "f0@0*1;" + act + ";f0@1*1");
        due("carryOut() with " + act, x.carryOut(), error ? 1 : 3);
        due("ahead of " + act, x.at(0, 0, FORECAST), 1);
        due("behind " + act, x.at(0, 1, FORECAST), error ? 0 : 1);
    }

    private static void carryOutUpToAnError() {
        sentence(24, "up to the first one that returns an error,");
        String[] wrong = {"f1@0*1", "f0@12*1", "f0@2*1001", "a1*1", "a0*2001", "l1@2*1", "l0@12*1", "l0@2*1001", "l0@1*1",
            "l0@2*29", "n0", "n31", "n9999", "f9@9999*9999"};
        for (String act : wrong) {
            stops(act, true);
        }
        String[] right = {"f0@11*1000", "f0@2*0", "a0*2000", "a0*0", "l0@2*28", "l0@2*0", "l0@11*1", "p"};
        for (String act : right) {
            stops(act, false);
        }
        LotFences x = one(1, 1, 0, 50);
        Due.put(x, "n1;n30");
        due("n1;n30", x.carryOut(), 2);
        Due.put(x, "a0*1;a0*2;a0*3");
        due("actual() that answers NONE is no error", x.carryOut(), 3);
        due("told", x.ofProduct(0, TOLD), 3);
    }

    private static void carryOutEmpties() {
        sentence(24, "and empties the pad.");
        LotFences x = with("p;p");
        due("carryOut()", x.carryOut(), 2);
        due("count(8)", x.count(8), 0);
        due("fault()", x.fault(), 0);
        Due.put(x, "n31;p");
        due("carryOut() of none", x.carryOut(), 0);
        due("count(8)", x.count(8), 0);
        Due.put(x, textOf(80));
        due("carryOut() of a full pad", x.carryOut(), 40);
        due("wipe()", x.wipe(), 0);
        due("carryOut() of nothing", x.carryOut(), BAD_TEXT);
    }

    private static void carryOutIsOneChange() {
        sentence(24, "This is a change (one, with all of them; also if none is carried out).");
        LotFences x = one(1, 1, 0, 9);
        Due.put(x, "n1;n1;f0@5*5;a0*7;p;p;p;p;n31;n1");
        due("carryOut()", x.carryOut(), 8);
        due("changes", x.count(9), 2);
        due("undo()", x.undo(), 1);
        due("weeks then", x.count(0), 0);
        due("told then", x.ofProduct(0, TOLD), NONE);
        due("at(0, 5, 0) then", x.at(0, 5, FORECAST), 0);
        Due.put(x, "n0");
        due("carryOut() of none", x.carryOut(), 0);
        due("changes", x.count(9), 2);
        due("undo()", x.undo(), 1);
        due("products stay", x.count(1), 1);
        x.plan();
        due("what comes behind it is a change, too", x.count(9), 2);
    }

    private static void carryOutReturns() {
        sentence(24, "Returns how many acts were carried out;");
        for (int acts = 1; acts <= 40; acts++) {
            due("carryOut() of " + acts, with(textOf(2 * acts - 1)).carryOut(), acts);
        }
        due("none", with("n0;p").carryOut(), 0);
        due("one", with("p;n0;p").carryOut(), 1);
        due("all but the last one", with("p;p;n31").carryOut(), 2);
    }

    private static void carryOutBadText() {
        sentence(24, "BAD_TEXT if the pad has a fault (then it stays).");
        for (String text : new String[] {"", "x", "p;", "p;n2;", "n2;n", "n2x", "n02", "n2;f0@0*10000"}) {
            LotFences x = with(text);
            due("carryOut() of " + text, x.carryOut(), BAD_TEXT);
            due("the length of " + text, x.count(8), text.length());
            due("weeks", x.count(0), 0);
            due("changes", x.count(9), 0);
        }
        LotFences x = with("n2;n");
        x.carryOut();
        x.put('3');
        due("carryOut() of n2;n3", x.carryOut(), 2);
        due("weeks", x.count(0), 5);
    }
}
