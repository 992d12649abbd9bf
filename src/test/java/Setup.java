/** Sets positions up by hand, from a picture. */
final class Setup {
    private static final String LETTERS = "KGSBRP";

    private Setup() {
    }

    /**
     * A new object with the men of a picture: 25 words, "." for an empty square, else a letter, large
     * for the side 0, small for the side 1, with "+" ahead for a promoted man. The hands are letters.
     */
    static FiveShogi of(String picture, int side, String hands) {
        FiveShogi x = new FiveShogi();
        Due.due("clearAll()", x.clearAll(), 12);
        String[] words = picture.trim().split("\\s+");
        if (words.length != 25) {
            throw new IllegalArgumentException("not 25 squares: " + picture);
        }
        for (int square = 0; square < 25; square++) {
            if (!words[square].equals(".")) {
                x.put(square, man(words[square]));
            }
        }
        for (char letter : hands.toCharArray()) {
            int owner = Character.isUpperCase(letter) ? 0 : 1;
            int kind = LETTERS.indexOf(Character.toUpperCase(letter));
            x.setHand(owner, kind, x.hand(owner, kind) + 1);
        }
        if (side == 1) {
            x.setSide(1);
        }
        return x;
    }

    static int man(String word) {
        String plain = word.startsWith("+") ? word.substring(1) : word;
        int kind = LETTERS.indexOf(Character.toUpperCase(plain.charAt(0)));
        int promoted = word.startsWith("+") ? 4 : 0;
        return (Character.isUpperCase(plain.charAt(0)) ? 0 : 10) + kind + promoted;
    }

    static void type(FiveShogi x, String text) {
        x.clearText();
        for (char sign : text.toCharArray()) {
            x.type(sign);
        }
    }

    /** The bits of some squares. */
    static int bits(int... squares) {
        int bits = 0;
        for (int square : squares) {
            bits |= 1 << square;
        }
        return bits;
    }
}
