/** Promises 10 (type), 11 (clearText) and 12 (perform). */
public final class TextsTest {
    private static final int FULL = -1003;
    private static final int NOT_POSSIBLE = -1004;
    private static final int NONE = -1005;

    public static void main(String[] args) {
        promise10Type();
        promise11ClearText();
        promise12Plays();
        promise12AllOrNone();
        promise12OneChange();
        promise12Letters();
        promise12Faults();
        promise12EachCharacterAtEachPlace();
        promise12LongTexts();
        Due.end();
    }

    private static void promise10Type() {
        FiveShogi x = new FiveShogi();
        char[] odd = {0, '0', ' ', 'x', 255, 256, 0x0660, 0xffff};
        for (int i = 0; i < 60; i++) {
            Due.due("type()", x.type(odd[i % odd.length]), i + 1);
        }
        Due.due("full", x.type('0'), FULL);
        Due.due("full again", x.type((char) 0), FULL);
        Due.due("length", x.total(13), 60);
        Due.due("history", x.total(12), 0);
    }

    private static void promise11ClearText() {
        FiveShogi x = new FiveShogi();
        Due.due("empty", x.clearText(), 0);
        Setup.type(x, "abc");
        Due.due("three", x.clearText(), 3);
        Due.due("length", x.total(13), 0);
        Due.due("empty again", x.clearText(), 0);
        for (int i = 0; i < 60; i++) {
            x.type('1');
        }
        Due.due("sixty", x.clearText(), 60);
        Due.due("room again", x.type('1'), 1);
        Due.due("history", x.total(12), 0);
        Due.due("perform() of what is left", x.perform(), -2001);
    }

    private static void promise12Plays() {
        FiveShogi x = new FiveShogi();
        Setup.type(x, "44-14");
        Due.due("a play", x.perform(), 1);
        Due.due("the rook", x.man(9), 4);
        Due.due("the text stays", x.total(13), 5);
        Due.due("plays", x.total(8), 1);
        Due.due("taken", x.total(9), 1);
        Setup.type(x, "04-14;p*24");
        Due.due("two plays", x.perform(), 2);
        Due.due("the pawn", x.man(14), 5);
        Due.due("the hand", x.hand(0, 5), 0);
        Due.due("plays", x.total(8), 3);
        Due.due("taken", x.total(9), 2);
        Due.due("dropped", x.total(11), 1);
        Due.due("side", x.total(0), 1);
        x = Setup.of("k . . . . P . . . . . . . . . . . . . p . . K . .", 0, "");
        x.takeOff(0);
        Setup.type(x, "10-00+;34-44+");
        Due.due("two promotions", x.perform(), 2);
        Due.due("the one", x.man(0), 9);
        Due.due("the other", x.man(24), 19);
        Due.due("promoted", x.total(10), 2);
    }

    private static void promise12AllOrNone() {
        FiveShogi x = new FiveShogi();
        x.move(15, 10, false);
        x.undo();
        Setup.type(x, "44-14;04-14;p*24;04-14");
        Due.due("the last one is not allowed", x.perform(), NOT_POSSIBLE);
        Due.due("the rook", x.man(24), 4);
        Due.due("the king", x.man(4), 10);
        Due.due("hand", x.total(2) + x.total(3), 0);
        Due.due("side", x.total(0), 0);
        Due.due("plays", x.total(8), 0);
        Due.due("taken", x.total(9), 0);
        Due.due("dropped", x.total(11), 0);
        Due.due("history", x.total(12), 0);
        Due.due("undo()", x.undo(), NONE);
        Due.due("the king can be put here again only", x.put(9, 10), NOT_POSSIBLE);
        Setup.type(x, "30-20;30-20");
        Due.due("the same play twice", x.perform(), NOT_POSSIBLE);
        Setup.type(x, "30-20;00-10;44-14");
        Due.due("each in its turn", x.perform(), 3);
        Setup.type(x, "30-20+");
        Due.due("no promotion", x.perform(), NOT_POSSIBLE);
        Setup.type(x, "g*00");
        Due.due("not in the hand", x.perform(), NOT_POSSIBLE);
        Setup.type(x, "22-22");
        Due.due("no such move", x.perform(), NOT_POSSIBLE);
    }

    private static void promise12OneChange() {
        FiveShogi x = new FiveShogi();
        Setup.type(x, "30-20;00-10;44-14;04-14");
        Due.due("four plays", x.perform(), 4);
        Due.due("history", x.total(12), 1);
        Due.due("undo()", x.undo(), 0);
        Due.due("plays", x.total(8), 0);
        Due.due("pawn", x.man(15), 5);
        Due.due("rook", x.man(0), 14);
        Due.due("again", x.perform(), 4);
    }

    private static void promise12Letters() {
        String letters = "gsbrp";
        for (int kind = 1; kind <= 5; kind++) {
            FiveShogi x = Setup.of("k . . . . . . . . . . . . . . . . . . . . . . . K", 0, "GSBRP");
            Setup.type(x, letters.charAt(kind - 1) + "*23");
            Due.due("perform() of " + letters.charAt(kind - 1), x.perform(), 1);
            Due.due("the man", x.man(13), kind);
            Due.due("the hand", x.hand(0, kind), 0);
        }
    }

    private static void promise12Faults() {
        fault("", 0);
        fault("5", 0);
        fault("/", 0);
        fault("k", 0);
        fault("G", 0);
        fault("-", 0);
        fault("+", 0);
        fault("*", 0);
        fault(";", 0);
        fault(" 30-20", 0);
        fault("3", 1);
        fault("35-20", 1);
        fault("3-20", 1);
        fault("3p", 1);
        fault("30", 2);
        fault("3020", 2);
        fault("30*20", 2);
        fault("30;", 2);
        fault("30-", 3);
        fault("30-52", 3);
        fault("30-p", 3);
        fault("30-2", 4);
        fault("30-25", 4);
        fault("30-2+", 4);
        fault("30-20-", 5);
        fault("30-20*", 5);
        fault("30-200", 5);
        fault("30-20p", 5);
        fault("30-20 ", 5);
        fault("30-20;", 6);
        fault("30-20++", 6);
        fault("30-20+0", 6);
        fault("30-20+;", 7);
        fault("30-20;;", 6);
        fault("30-20;5", 6);
        fault("30-20;4", 7);
        fault("p", 1);
        fault("p20", 1);
        fault("pp", 1);
        fault("p-20", 1);
        fault("p*", 2);
        fault("p*5", 2);
        fault("p*p", 2);
        fault("p*2", 3);
        fault("p*25", 3);
        fault("p*2;", 3);
        fault("p*20+", 4);
        fault("p*200", 4);
        fault("p*20p", 4);
        fault("p*20;", 5);
        fault("p*20;g*11;s*", 12);
        fault("99-99;x", 0);
        fault("44-14;04-14;p*24;30_20", 19);
    }

    private static void fault(String text, int fault) {
        FiveShogi x = new FiveShogi();
        Setup.type(x, text);
        Due.due("perform() of \"" + text + "\"", x.perform(), -2000 - fault);
        Due.due("the text stays", x.total(13), text.length());
        Due.due("history", x.total(12), 0);
        Due.due("plays", x.total(8), 0);
    }

    /** Every character up to 300 at every place of a text. */
    private static void promise12EachCharacterAtEachPlace() {
        String text = "30-20;r*11;11-01+";
        String digits = "01234";
        String[] allowed = {
            digits + "gsbrp", digits, "-", digits, digits, ";+",
            digits + "gsbrp", "*", digits, digits, ";",
            digits + "gsbrp", digits, "-", digits, digits, ";+"
        };
        for (int place = 0; place < text.length(); place++) {
            FiveShogi x = new FiveShogi();
            for (char sign = 0; sign < 300; sign++) {
                if (sign % 20 == 0) {
                    x = new FiveShogi();
                }
                Setup.type(x, text.substring(0, place));
                x.type(sign);
                int due = -2000 - place;
                int got = x.perform();
                if (allowed[place].indexOf(sign) >= 0) {
                    Due.due("'" + sign + "' is allowed at " + place, got == due ? 1 : 0, 0);
                } else {
                    Due.due("'" + sign + "' is at fault at " + place, got, due);
                }
            }
        }
    }

    private static void promise12LongTexts() {
        FiveShogi x = Setup.of("k . . . . . . . . . . . . . . . . . . . . . . . K", 0, "");
        String round = "44-43;00-01;43-44;01-00";
        Setup.type(x, round + ";" + round + ";44-43");
        Due.due("length", x.total(13), 53);
        Due.due("nine plays", x.perform(), 9);
        Due.due("plays", x.total(8), 9);
        Due.due("history", x.total(12), 4);
        Setup.type(x, "00-01;44-43;01-00;43-44;00-01;44-43;01-00;43-44;00-01;44-43;");
        Due.due("length", x.total(13), 60);
        Due.due("too early at 60", x.perform(), -2060);
        x = Setup.of("k . . . . . . . . . . . . . . . . . . . . . . . K", 0, "GGGGSSSSggggssss");
        Setup.type(x, "g*30;g*10;g*31;g*11;g*32;g*12;g*33;g*13;s*40;s*20;s*41;s*21");
        Due.due("length", x.total(13), 59);
        Due.due("twelve plays", x.perform(), 12);
        Due.due("dropped", x.total(11), 12);
        Due.due("men", x.total(1), 14);
        x.undo();
        Due.due("men", x.total(1), 2);
        x.type('2');
        Due.due("a fault at 59", x.perform(), -2059);
    }
}
