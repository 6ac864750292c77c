/** What can be seen of a LotFences from outside, as one text. */
final class Seen {
    private Seen() {
    }

    /** Everything but the pad, the history and the slots: 21 calls, and 37 for each product. */
    static String state(LotFences x) {
        StringBuilder seen = new StringBuilder();
        for (int what = 0; what <= 22; what++) {
            if (what != 8 && what != 9) {
                seen.append(x.count(what)).append(' ');
            }
        }
        long products = x.count(1);
        for (int product = 0; product < products; product++) {
            for (int what = 0; what <= 12; what++) {
                seen.append(x.ofProduct(product, what)).append(' ');
            }
            for (int week = 0; week < 12; week++) {
                seen.append(x.at(product, week, 0)).append('/').append(x.at(product, week, 1)).append(' ');
            }
        }
        return seen.toString();
    }

    /** With what is seen of the pad and of the history. */
    static String whole(LotFences x) {
        return state(x) + x.count(8) + ' ' + x.fault() + ' ' + x.count(9);
    }
}
