/** Promises 21 to 24: put, wipe, fault, carryOut. */
public final class TextsTest {
    public static void main(String[] args) {
        put();
        putWrong();
        putAtTheEnd();
        wipe();
        faults();
        carryOut();
        carryOutStops();
        carryOutNothing();
        carryOutBadText();
        noneIsNoError();
        longestText();
        Due.end();
    }

    private static void due(String call, long got, long want) {
        Due.due(call, got, want);
    }

    private static void put() {
        LotFences x = new LotFences();
        due("21: put(\"n\")", x.put('n'), 1);
        due("21: put(\"12\")", x.put(0x3132L), 3);
        due("21: fault of n12", x.fault(), -6);
        due("21: put(8 characters)", x.put(0x3b703b703b703b70L), 11);
        due("21: fault of n12;p;p;p;p", x.fault(), -6);
        due("21: count(8)", x.count(8), 11);
        due("21: put(!)", x.put(33), 12);
        due("21: fault behind it", x.fault(), 11);
        due("21: put(~)", x.put(126), 13);
        due("21: put() is no change", x.count(9), 0);
    }

    private static void putWrong() {
        LotFences x = new LotFences();
        x.put('p');
        long[] wrong = {0, 32, 127, 128, 255, 1, 0x7000L, 0x700070L, 0x2070L, 0x7020L, 0x70ffL, 0x7f70L, -1L,
            Long.MIN_VALUE, Long.MAX_VALUE, 0x7000000000000000L, 0x7000000000000070L, 0x0100000000000070L,
            0x8070707070707070L, 0x7070707000707070L, 0x2070707070707070L, 0x7070707070707020L, 0xf070707070707070L};
        for (long characters : wrong) {
            due("21: put(" + characters + ")", x.put(characters), -2);
        }
        due("21: count(8)", x.count(8), 1);
        due("21: fault()", x.fault(), -6);
    }

    private static void putAtTheEnd() {
        LotFences x = new LotFences();
        for (int k = 1; k <= 9; k++) {
            due("21: put() of 8", x.put(0x703b703b703b703bL), 8 * k);
        }
        due("21: put() of 4", x.put(0x703b703bL), 76);
        due("21: 84 are too many", x.put(0x703b703b703b703bL), -4);
        due("21: 81 are too many", x.put(0x703b703b70L), -4);
        due("21: wrong ones are wrong all the same", x.put(0x703b203b70L), -2);
        due("21: put() of 3", x.put(0x703b70L), 79);
        due("21: fault()", x.fault(), -6);
        due("21: put() of 1", x.put(';'), 80);
        due("21: one more", x.put('p'), -4);
        due("21: nothing more", x.put(0), -2);
        due("21: the fault behind the end", x.fault(), 80);
        due("22: wipe()", x.wipe(), 80);
        due("21: put() then", x.put('p'), 1);
        due("21: fault() then", x.fault(), -6);
    }

    private static void wipe() {
        LotFences x = new LotFences();
        due("22: wipe() of nothing", x.wipe(), 0);
        x.put(0x6e31L);
        due("22: wipe()", x.wipe(), 2);
        due("22: wipe() again", x.wipe(), 0);
        due("22: count(8)", x.count(8), 0);
        due("22: fault()", x.fault(), 0);
        due("22: wipe() is no change", x.count(9), 0);
    }

    private static void fault(String text, int want) {
        LotFences x = new LotFences();
        Due.put(x, text);
        due("23: fault of " + text, x.fault(), want);
        due("23: fault of " + text + " again", x.fault(), want);
        due("23: the length of " + text, x.count(8), text.length());
    }

    private static void faults() {
        String[] good = {"p", "n0", "n9", "n10", "n9999", "n1000", "a0*0", "a9*2000", "f0@0*0", "f9@11*1000", "l3@5*7",
            "l0@9999*9999", "p;p", "n1;p;a0*1;f1@2*3;l4@5*6", "f0@0*0;n30"};
        for (String text : good) {
            fault(text, -6);
        }
        // Cut anywhere, such a text ends too early, is whole, or becomes whole.
        String[] early = {"", "n", "a", "a0", "a0*", "f", "f0", "f0@", "f0@1", "f0@1*", "l", "l0", "l0@", "l0@12", "l0@12*",
            "p;", "n1;", "a0*1;", "f0@1*2;", "p;f", "n12;l3@", "p;p;p;"};
        for (String text : early) {
            fault(text, text.length());
        }
        wrongSign("", "falpn", "0@*;xFPN~!");
        wrongSign("p", ";", "p0@*n~");
        wrongSign("p;", "falpn", ";0@*~");
        wrongSign("n", "0123456789", "p;@*~n/:");
        wrongSign("n0", ";", "0123456789@*pn");
        wrongSign("n1", ";0123456789", "@*pn/:");
        wrongSign("n999", ";0123456789", "@*pn");
        wrongSign("n1000", ";", "0123456789@*pn");
        wrongSign("a", "0123456789", "p;@*~n/:");
        wrongSign("a3", "*", "0123456789@;pn");
        wrongSign("a3*", "0123456789", "*@;pn/:");
        wrongSign("a3*20", ";0123456789", "*@pn");
        wrongSign("a3*0", ";", "0123456789*@pn");
        wrongSign("f", "0123456789", "p;@*~n/:");
        wrongSign("f3", "@", "0123456789*;pn");
        wrongSign("f3@", "0123456789", "*@;pn");
        wrongSign("f3@0", "*", "0123456789@;pn");
        wrongSign("f3@11", "*0123456789", "@;pn");
        wrongSign("f3@1111", "*", "0123456789@;pn");
        wrongSign("f3@1*", "0123456789", "*@;pn");
        wrongSign("f3@1*0", ";", "0123456789*@pn");
        wrongSign("f3@1*1234", ";", "0123456789*@pn");
        wrongSign("l", "0123456789", "p;@*~n/:");
        wrongSign("l3", "@", "0123456789*;pn");
        wrongSign("l3@7", "*0123456789", "@;pn");
        wrongSign("l3@7*8", ";0123456789", "*@pn");
    }

    /** Behind the start the one signs can stand (then the fault is elsewhere, or none), the others cannot. */
    private static void wrongSign(String start, String can, String cannot) {
        for (char sign : can.toCharArray()) {
            LotFences x = new LotFences();
            Due.put(x, start + sign);
            due("23: " + sign + " behind " + start, x.fault() == start.length() ? 1 : 0, 0);
        }
        for (char sign : cannot.toCharArray()) {
            LotFences x = new LotFences();
            Due.put(x, start + sign);
            due("23: fault of " + start + sign, x.fault(), start.length());
            Due.put(x, "p");
            due("23: fault of " + start + sign + "p", x.fault(), start.length());
        }
    }

    private static void carryOut() {
        LotFences x = new LotFences();
        x.product(0, 10, 4, 2, 50);
        x.product(1, 5, 1, 1, 7);
        due("24: put()", Due.put(x, "f1@0*3;a0*30;f0@11*1000;l1@2*6;f0@2*25;n1;f1@3*9;p"), 50);
        due("24: carryOut()", x.carryOut(), 8);
        due("24: the pad is empty", x.count(8), 0);
        due("24: one change", x.count(9), 3);
        due("24: weeks", x.count(0), 1);
        due("24: a0*30 came", x.ofProduct(0, 11), 30);
        due("24: f1@0*3 came", x.ofProduct(1, 11), 3);
        due("24: f0@11*1000", x.at(0, 11, 0), 1000);
        due("24: f0@2*25", x.at(0, 1, 0), 25);
        due("24: l1@2*6 is frozen now", x.at(1, 1, 1), 6);
        due("24: p behind f1@3*9", x.at(1, 3, 1), 0);
        due("24: undo()", x.undo(), 2);
        due("24: weeks then", x.count(0), 0);
        due("24: the pad stays empty", x.count(8), 0);
        due("24: at(1, 2, 1) then", x.at(1, 2, 1), 0);
        Due.put(x, "l0@2*3;p");
        due("24: carryOut() of what is planned anew", x.carryOut(), 2);
        due("24: at(0, 2, 1)", x.at(0, 2, 1), 0);
        Due.put(x, "l0@2*3");
        due("24: carryOut()", x.carryOut(), 1);
        due("24: at(0, 2, 1)", x.at(0, 2, 1), 3);
    }

    private static void stops(String text, int carried) {
        LotFences x = new LotFences();
        x.product(0, 10, 4, 2, 50);
        Due.put(x, "f0@0*1;" + text + ";f0@1*1");
        due("24: carryOut() with " + text, x.carryOut(), carried);
        due("24: ahead of " + text, x.at(0, 0, 0), carried > 0 ? 1 : 0);
        due("24: behind " + text, x.at(0, 1, 0), carried > 2 ? 1 : 0);
        due("24: a change with " + text, x.count(9), 2);
        due("24: the pad behind " + text, x.count(8), 0);
    }

    private static void carryOutStops() {
        stops("f1@0*1", 1);
        stops("f0@12*1", 1);
        stops("f0@9999*1", 1);
        stops("f0@0*1001", 1);
        stops("a1*1", 1);
        stops("a0*2001", 1);
        stops("l1@2*1", 1);
        stops("l0@12*1", 1);
        stops("l0@2*1001", 1);
        stops("l0@1*1", 1);
        stops("l0@2*99", 1);
        stops("n0", 1);
        stops("n31", 1);
        stops("f0@2*0", 3);
        stops("l0@2*0", 3);
        stops("p", 3);
        stops("a0*2000", 3);
    }

    private static void carryOutNothing() {
        LotFences x = new LotFences();
        Due.put(x, "n31;p");
        due("24: carryOut() of none", x.carryOut(), 0);
        due("24: it is a change", x.count(9), 1);
        due("24: the pad is empty", x.wipe(), 0);
        due("24: undo()", x.undo(), 0);
        x.plan();
        due("24: what comes later is recorded", x.count(9), 1);
    }

    private static void carryOutBadText() {
        LotFences x = new LotFences();
        due("24: carryOut() of an empty pad", x.carryOut(), -3);
        Due.put(x, "p;n2;");
        due("24: carryOut() of p;n2;", x.carryOut(), -3);
        due("24: nothing is carried out", x.count(0), 0);
        due("24: it is no change", x.count(9), 0);
        due("24: the pad stays", x.count(8), 5);
        Due.put(x, "n3");
        due("24: carryOut() of p;n2;n3", x.carryOut(), 3);
        due("24: count(0)", x.count(0), 5);
        due("24: carryOut() again", x.carryOut(), -3);
    }

    /** actual() returns NONE if nothing was told before; a text goes on behind it. */
    private static void noneIsNoError() {
        LotFences x = new LotFences();
        x.product(0, 1, 1, 0, 9);
        Due.put(x, "a0*4;a0*5;n1;a0*1");
        due("24: carryOut()", x.carryOut(), 4);
        due("24: came", x.ofProduct(0, 11), 5);
        due("24: told", x.ofProduct(0, 8), 1);
    }

    private static void longestText() {
        LotFences x = new LotFences();
        StringBuilder text = new StringBuilder("p");
        for (int k = 1; k < 40; k++) {
            text.append(";p");
        }
        Due.put(x, text.toString());
        due("24: 40 acts of 79 characters", x.carryOut(), 40);
        Due.put(x, text.replace(77, 79, ";n2").toString());
        due("24: 40 acts of 80 characters", x.count(8), 80);
        due("24: carryOut()", x.carryOut(), 40);
        due("24: count(0)", x.count(0), 2);
        due("24: count(9)", x.count(9), 2);
    }
}
