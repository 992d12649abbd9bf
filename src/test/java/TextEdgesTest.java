/** Promises 10 to 12 (type, clearText, perform): the boundary cases of each sentence. */
public final class TextEdgesTest {
    private static final int FULL = -1003;
    private static final int NOT_POSSIBLE = -1004;
    private static final int NONE = -1005;
    private static final String KINGS = "k . . . . . . . . . . . . . . . . . . . . . . . K";

    public static void main(String[] args) {
        promise10TheLengthThen();
        promise10FullAt60();
        promise10AnyCharacter();
        promise10IsNoChange();
        promise11TheLengthThatItHad();
        promise11IsNoChange();
        promise12HowManyPlays();
        promise12TheFaultOfTheText();
        promise12NotPossibleAtEachTurn();
        promise12EachWhenItsTurnComes();
        promise12TheTextStays();
        promise12OneChange();
        promise12CountsEachPlay();
        promise12ReasonsAgainstAPlay();
        Due.end();
    }

    /** "Appends a character to the text."; "Returns the length of the text then": 1 to 60. */
    private static void promise10TheLengthThen() {
        FiveShogi x = new FiveShogi();
        for (int length = 1; length <= 60; length++) {
            Due.due("type()", x.type((char) ('a' + length % 26)), length);
            Due.due("total(13)", x.total(13), length);
        }
    }

    /** "FULL if it has 60 characters": not with 59; the text is what it was. */
    private static void promise10FullAt60() {
        FiveShogi x = Setup.of(KINGS, 0, "");
        String text = "44-43;00-01;43-44;01-00;44-43;00-01;43-44;01-00;44-43;00-01";
        Setup.type(x, text);
        Due.due("59 are whole", x.perform(), 10);
        x.undo();
        Due.due("the 60th", x.type('+'), 60);
        for (int i = 0; i < 5; i++) {
            Due.due("the 61st", x.type('0'), FULL);
            Due.due("total(13)", x.total(13), 60);
        }
        Due.due("the text is read as before", x.perform(), NOT_POSSIBLE);
        Due.due("clearText()", x.clearText(), 60);
        Due.due("there is room again", x.type('4'), 1);
    }

    /** "character: any character": the least and the greatest, and those that end a text elsewhere. */
    private static void promise10AnyCharacter() {
        FiveShogi x = new FiveShogi();
        int[] characters = {0, 1, 10, 13, 26, 32, 127, 128, 255, 256, 0x7fff, 0x8000, 0xd800, 0xdc00, 0xfffe, 0xffff};
        for (int i = 0; i < characters.length; i++) {
            Due.due("type(" + characters[i] + ")", x.type((char) characters[i]), i + 1);
        }
        for (int character : characters) {
            Setup.type(x, "30-20");
            x.type((char) character);
            Due.due("the fault " + character, x.perform(), -2005);
        }
    }

    /** type() is not described as a change, nor is it undone. */
    private static void promise10IsNoChange() {
        FiveShogi x = new FiveShogi();
        x.put(12, 1);
        Setup.type(x, "30-20");
        Due.due("history", x.total(12), 1);
        Due.due("undo()", x.undo(), 0);
        Due.due("the text", x.total(13), 5);
        Due.due("undo()", x.undo(), NONE);
        Due.due("the text is whole", x.perform(), 1);
    }

    /** "Empties the text."; "Returns the length that it had": 0 to 60. */
    private static void promise11TheLengthThatItHad() {
        for (int length = 0; length <= 60; length++) {
            FiveShogi x = new FiveShogi();
            for (int i = 0; i < length; i++) {
                x.type('3');
            }
            Due.due("clearText()", x.clearText(), length);
            Due.due("clearText() again", x.clearText(), 0);
            Due.due("total(13)", x.total(13), 0);
            Due.due("the empty text's fault", x.perform(), -2000);
            Due.due("type()", x.type('3'), 1);
            Due.due("nothing is left behind it", x.perform(), -2001);
        }
    }

    /** clearText() is not described as a change, nor is it undone. */
    private static void promise11IsNoChange() {
        FiveShogi x = new FiveShogi();
        Setup.type(x, "30-20");
        x.keep();
        x.perform();
        Due.due("clearText()", x.clearText(), 5);
        Due.due("history", x.total(12), 1);
        Due.due("undo()", x.undo(), 0);
        Due.due("the text is not back", x.total(13), 0);
        x.restore();
        Due.due("the text is not back", x.total(13), 0);
    }

    /** "Returns how many plays the text has": 1 to 12. */
    private static void promise12HowManyPlays() {
        String[] drops = {"g*30", "g*10", "g*31", "g*11", "g*32", "g*12", "g*33", "g*13", "s*40", "s*20", "s*41", "s*21"};
        StringBuilder text = new StringBuilder();
        for (int plays = 1; plays <= 12; plays++) {
            FiveShogi x = Setup.of(KINGS, 0, "GGGGSSSSggggssss");
            text.append(plays == 1 ? "" : ";").append(drops[plays - 1]);
            Setup.type(x, text.toString());
            Due.due("perform() of " + text, x.perform(), plays);
            Due.due("plays so far", x.total(8), plays);
            Due.due("dropped so far", x.total(11), plays);
            Due.due("men", x.total(1), 2 + plays);
            Due.due("the side to play", x.total(0), plays % 2);
        }
        Due.due("length", text.length(), 59);
    }

    /** "-2000 minus the fault of the text if it has one": from 0 to 60, whatever the plays ahead are. */
    private static void promise12TheFaultOfTheText() {
        String possible = "44-43;00-01;43-44;01-00;44-43;00-01;43-44;01-00;44-43;00-01;";
        String notPossible = "00-44;00-44;00-44;00-44;00-44;00-44;00-44;00-44;00-44;00-44;";
        for (String text : new String[] {possible, notPossible}) {
            for (int length = 0; length < 60; length++) {
                FiveShogi x = Setup.of(KINGS, 0, "");
                Setup.type(x, text.substring(0, length) + "x");
                Due.due("the fault at " + length, x.perform(), -2000 - length);
                Due.due("no play is made", x.total(8), 0);
                Due.due("the side to play", x.total(0), 0);
            }
            FiveShogi x = Setup.of(KINGS, 0, "");
            Setup.type(x, text);
            Due.due("60 characters end too early", x.perform(), -2060);
            Due.due("no play is made", x.total(8), 0);
        }
    }

    /** "all of them, or none if one of them is not allowed when its turn comes": the first, one between, the last. */
    private static void promise12NotPossibleAtEachTurn() {
        String[] plays = {"44-43", "00-01", "43-42", "01-02", "42-41", "02-03", "41-40", "03-04", "40-30", "04-14"};
        for (int wrong = 0; wrong <= plays.length; wrong++) {
            StringBuilder text = new StringBuilder();
            for (int i = 0; i < plays.length; i++) {
                text.append(i == 0 ? "" : ";").append(i == wrong ? "22-23" : plays[i]);
            }
            FiveShogi x = Setup.of(KINGS, 0, "Gp");
            x.keep();
            Setup.type(x, text.toString());
            String before = Seen.of(x);
            if (wrong < plays.length) {
                Due.due("perform() of " + text, x.perform(), NOT_POSSIBLE);
                Seen.same("perform()", before, x);
                Due.due("a king is where it was", x.put(24, 0), NONE);
            } else {
                Due.due("perform() of " + text, x.perform(), plays.length);
                Due.due("a king is where it went", x.put(9, 10), NONE);
            }
        }
    }

    /** "... one after the other": allowed at its turn alone, or at first alone. */
    private static void promise12EachWhenItsTurnComes() {
        FiveShogi x = Setup.of("k . . . . . . . . . . . . p . . . . P . . . . . K", 0, "");
        Setup.type(x, "33-23;00-01;p*33");
        Due.due("a drop of what is taken on the way", x.perform(), NOT_POSSIBLE);
        Setup.type(x, "33-23;00-01;p*32");
        Due.due("a drop into another column", x.perform(), 3);
        x.undo();
        Setup.type(x, "p*32");
        Due.due("not at first", x.perform(), NOT_POSSIBLE);
        Setup.type(x, "33-23;23-33");
        Due.due("both sides take turns", x.perform(), NOT_POSSIBLE);
        Setup.type(x, "23-33;33-23");
        Due.due("the side to play begins", x.perform(), NOT_POSSIBLE);
        x.setSide(1);
        Due.due("the side 1 begins, the man is taken", x.perform(), NOT_POSSIBLE);
        Setup.type(x, "23-33;44-33;00-01;p*43");
        Due.due("the side 1 begins", x.perform(), 4);
        Due.due("the pawn", x.man(23), 5);
    }

    /** "Makes the plays of the text, which stays": behind each sort of answer. */
    private static void promise12TheTextStays() {
        FiveShogi x = Setup.of(KINGS, 0, "");
        Setup.type(x, "44-43;00-01");
        Due.due("performed", x.perform(), 2);
        Due.due("length", x.total(13), 11);
        Due.due("not possible", x.perform(), NOT_POSSIBLE);
        Due.due("length", x.total(13), 11);
        x.type(';');
        Due.due("a fault", x.perform(), -2012);
        Due.due("length", x.total(13), 12);
        for (char sign : "43-44;01-00".toCharArray()) {
            x.type(sign);
        }
        x.undo();
        Due.due("four plays", x.perform(), 4);
        Due.due("length", x.total(13), 23);
        Due.due("as at first: four plays again", x.perform(), 4);
        Due.due("plays", x.total(8), 8);
    }

    /** "This is one change": with 0, 3 and 4 states in the history. */
    private static void promise12OneChange() {
        for (int states = 0; states <= 4; states++) {
            FiveShogi x = new FiveShogi();
            for (int i = 1; i <= states; i++) {
                x.put(12, i < 3 ? i : 2 * i);
            }
            Setup.type(x, "30-20;00-10;20-10;01-10;44-14;04-14");
            String before = Seen.of(x);
            Due.due("perform()", x.perform(), 6);
            Due.due("states", x.total(12), Math.min(4, states + 1));
            Due.due("undo()", x.undo(), Math.min(3, states));
            if (states < 4) {
                Seen.same("perform() and undo()", before, x);
            }
            for (int left = Math.min(3, states) - 1; left >= 0; left--) {
                Due.due("undo()", x.undo(), left);
            }
            Due.due("no state is left", x.undo(), NONE);
            Due.due("man(12)", x.man(12), states == 4 ? 1 : NONE);
        }
        FiveShogi x = new FiveShogi();
        Setup.type(x, "30-20;30-20");
        Due.due("no change", x.perform(), NOT_POSSIBLE);
        Due.due("states", x.total(12), 0);
        Setup.type(x, "30-20;");
        Due.due("no change", x.perform(), -2006);
        Due.due("states", x.total(12), 0);
    }

    /** "Makes the plays of the text": as move() and drop() make them, with all that is counted. */
    private static void promise12CountsEachPlay() {
        FiveShogi x = Setup.of(". . . . k P . . . r . . . . R . . . . . K . . . .", 0, "G");
        x.put(9, 12);
        Setup.type(x, "24-14;04-14;10-00+;s*31");
        Due.due("a silver that is not in the hand", x.perform(), NOT_POSSIBLE);
        Setup.type(x, "24-14;04-14;10-00+;r*31");
        Due.due("perform()", x.perform(), 4);
        int[] totals = {0, 4, 2, 0, 0, 0, 0};
        for (int what = 0; what < totals.length; what++) {
            Due.due("total(" + what + ")", x.total(what), totals[what]);
        }
        Due.due("plays", x.total(8), 4);
        Due.due("taken", x.total(9), 2);
        Due.due("promoted", x.total(10), 1);
        Due.due("dropped", x.total(11), 1);
        Due.due("the silver taken", x.hand(0, 2), 1);
        Due.due("the rook dropped", x.man(16), 14);
        Due.due("the pawn", x.man(0), 9);
    }

    /** "NOT_POSSIBLE": for each reason of moveReason() and dropReason(). */
    private static void promise12ReasonsAgainstAPlay() {
        String[] texts = {
            "22-12", "04-14", "44-33", "44-04", "44-34+", "10-00", "20-21",
            "g*22", "p*44", "p*01", "p*30", "p*23"
        };
        for (String text : texts) {
            FiveShogi x = Setup.of("r . . . k P . . . . . . . . . . . . . . K . . . R", 0, "P");
            if (text.equals("20-21")) {
                x.takeOff(5);
                x.put(10, 1);
            }
            if (text.equals("p*23")) {
                x.takeOff(5);
            }
            String before = Seen.of(x);
            Setup.type(x, text);
            int length = text.length();
            Due.due("perform() of " + text, x.perform(), NOT_POSSIBLE);
            Due.due("length", x.clearText(), length);
            Seen.same("perform() of " + text, before, x);
        }
        FiveShogi x = Setup.of("k . . . . . . . . . G R . . . . . . . . . . . . K", 0, "P");
        Setup.type(x, "p*10");
        Due.due("a mate by a pawn", x.perform(), NOT_POSSIBLE);
        Setup.type(x, "44-43;00-10;p*00");
        Due.due("a king takes no guarded square", x.perform(), NOT_POSSIBLE);
    }
}
