/** All that can be seen of an object without changing it, as one text, to compare two moments. */
final class Seen {
    private Seen() {
    }

    /** Takes 51 of the object's 512 calls. */
    static String of(FiveShogi x) {
        StringBuilder seen = new StringBuilder();
        for (int square = 0; square < 25; square++) {
            seen.append(x.man(square)).append(' ');
        }
        for (int side = 0; side < 2; side++) {
            for (int kind = 1; kind <= 5; kind++) {
                seen.append(x.hand(side, kind)).append(' ');
            }
            seen.append(x.worth(side)).append(' ');
        }
        for (int what = 0; what <= 13; what++) {
            seen.append(x.total(what)).append(' ');
        }
        return seen.toString();
    }

    static void same(String call, String before, FiveShogi x) {
        String after = of(x);
        Due.due(call + " changes nothing: " + before + "/ " + after, before.equals(after) ? 1 : 0, 1);
    }
}
