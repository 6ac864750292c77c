/** Counts the answers that are not as due, and ends the test with them. */
final class Due {
    private static int answers = 0;
    private static int wrong = 0;

    private Due() {
    }

    static void due(String call, long got, long want) {
        answers++;
        if (got != want) {
            wrong++;
            System.out.println(call + " answered " + got + ", due is " + want);
        }
    }

    static void wrong(String what) {
        answers++;
        wrong++;
        System.out.println(what);
    }

    static void end() {
        System.out.println(answers + " answers, " + wrong + " not as due");
        if (wrong != 0 || answers == 0) {
            System.exit(1);
        }
    }

    /** The acts are put on the pad in pieces of eight characters. */
    static int put(LotFences x, String text) {
        int length = 0;
        for (int from = 0; from < text.length(); from += 8) {
            length = x.put(packed(text.substring(from, Math.min(from + 8, text.length()))));
        }
        return length;
    }

    static long packed(String signs) {
        long characters = 0;
        for (int k = 0; k < signs.length(); k++) {
            characters = characters << 8 | signs.charAt(k);
        }
        return characters;
    }
}
