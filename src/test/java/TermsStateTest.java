/** Of "Terms", WORTH, TEXTS, HISTORY and ERRORS: the boundary cases of each sentence. */
public final class TermsStateTest {
    private static final int UNKNOWN = -1001;
    private static final int OUT_OF_RANGE = -1002;
    private static final int FULL = -1003;
    private static final int NOT_POSSIBLE = -1004;
    private static final int NONE = -1005;

    /** One call, to be made on an object that is prepared for it. */
    private interface Call {
        int on(FiveShogi x);
    }

    public static void main(String[] args) {
        worthOnTheBoard();
        worthInTheHand();
        worthIsADifference();
        textsOf59To61Characters();
        textsAreListsOfPlays();
        squaresAreDigitsFrom0To4();
        playsWithAndWithoutPlus();
        lettersOfDrops();
        faultsOfEachBeginning();
        charactersThatWrapAround();
        historiesOf0To5States();
        refusedCallsAreNotRecorded();
        oneSnapshot();
        theStateIsEverythingElse();
        errorsAndNone();
        theFirstErrorIsReturned();
        errorsAndNoneChangeNothing();
        Due.end();
    }

    private static FiveShogi kings() {
        return Setup.of("k . . . . . . . . . . . . . . . . . . . . . . . K", 0, "");
    }

    // ---- WORTH

    /** "Men on the board are worth: king 0, gold 6, ...": no man, one man, 25 men. */
    private static void worthOnTheBoard() {
        int[] worths = {0, 6, 5, 8, 10, 1, 6, 11, 13, 4};
        FiveShogi x = new FiveShogi();
        x.clearAll();
        Due.due("no men", x.worth(0), 0);
        Due.due("no men", x.worth(1), 0);
        for (int kind = 1; kind <= 9; kind++) {
            x = new FiveShogi();
            x.clearAll();
            for (int square = 0; square < 25; square++) {
                x.put(square, kind);
                Due.due("men of the kind " + kind, x.worth(0), (square + 1) * worths[kind]);
            }
            Due.due("for the other side", x.worth(1), -25 * worths[kind]);
        }
        x = kings();
        Due.due("kings", x.worth(0), 0);
        x.takeOff(0);
        Due.due("a king alone", x.worth(0), 0);
        Due.due("no king", x.worth(1), 0);
    }

    /** "Men in a hand are worth 1 more than on the board, not promoted." */
    private static void worthInTheHand() {
        int[] worths = {0, 7, 6, 9, 11, 2, 6, 9, 11, 2};
        int[] onBoard = {0, 6, 5, 8, 10, 1, 6, 11, 13, 4};
        for (int kind = 1; kind <= 5; kind++) {
            FiveShogi x = kings();
            for (int many = 1; many <= 4; many++) {
                x.setHand(0, kind, many);
                Due.due("the hand of the side 0", x.worth(0), many * worths[kind]);
                x.setHand(1, kind, 4);
                Due.due("both hands", x.worth(1), (4 - many) * worths[kind]);
                x.setHand(1, kind, 0);
            }
            x.drop(kind, 12);
            Due.due("one of four is on the board", x.worth(0), 4 * worths[kind] - 1);
        }
        for (int kind = 1; kind <= 9; kind++) {
            FiveShogi x = kings();
            x.put(23, 10 + kind);
            Due.due("a man on the board", x.worth(1), onBoard[kind]);
            Due.due("it is taken", x.move(24, 23, false), 10 + kind);
            Due.due("it is in the hand", x.worth(0), worths[kind]);
        }
    }

    /** "The worth for a side is that of its men less that of the other side's men." */
    private static void worthIsADifference() {
        FiveShogi x = new FiveShogi();
        x.setHand(0, 5, 4);
        x.setHand(1, 5, 4);
        Due.due("as much for both", x.worth(0), 0);
        Due.due("as much for both", x.worth(1), 0);
        x.put(12, 15);
        Due.due("one pawn more", x.worth(1), 1);
        Due.due("one pawn less", x.worth(0), -1);
        x.setSide(1);
        Due.due("whoever is to play", x.worth(1), 1);
    }

    // ---- TEXTS

    /** "There is a text of at most 60 characters, empty at first." */
    private static void textsOf59To61Characters() {
        FiveShogi x = kings();
        Due.due("empty at first", x.total(13), 0);
        String round = "44-43;00-01;43-44;01-00;";
        Setup.type(x, round + round + "44-43;00-01");
        Due.due("59", x.total(13), 59);
        Due.due("ten plays of 59 characters", x.perform(), 10);
        x = Setup.of(". . . . . . S . . . . . . . . k . . . . . . . . K", 0, "");
        Setup.type(x, "11-00+;30-20;44-43;20-30;43-44;30-20;44-43;20-30;43-44;30-20");
        Due.due("60", x.total(13), 60);
        Due.due("ten plays of 60 characters", x.perform(), 10);
        Due.due("promoted", x.man(0), 6);
        Due.due("the last of them is made", x.man(10), 10);
        x.undo();
        Due.due("a 61st character", x.type(';'), FULL);
        Due.due("is not in the text", x.perform(), 10);
    }

    /** "It is a list of one or more plays with ";" between two." */
    private static void textsAreListsOfPlays() {
        performs("44-43", 1);
        performs("44-43;00-01", 2);
        performs("44-43;00-01;43-44", 3);
        performs("", -2000);
        performs(";", -2000);
        performs(";44-43", -2000);
        performs("44-43;", -2006);
        performs("44-43;;00-01", -2006);
        performs("44-4300-01", -2005);
        performs("44-43,00-01", -2005);
        performs("44-43 ;00-01", -2005);
        performs("44-43; 00-01", -2006);
        performs("44-43;00-01;", -2012);
    }

    private static void performs(String text, int due) {
        FiveShogi x = kings();
        Setup.type(x, text);
        Due.due("perform() of \"" + text + "\"", x.perform(), due);
        Due.due("plays made by \"" + text + "\"", x.total(8), Math.max(0, due));
        Due.due("length of \"" + text + "\"", x.total(13), text.length());
    }

    /** "A square is a digit for the row and a digit for the column, each from 0 to 4." */
    private static void squaresAreDigitsFrom0To4() {
        String[] moves = {"44-43", "g*12"};
        int[][] places = {{0, 1, 3, 4}, {2, 3}};
        for (int i = 0; i < moves.length; i++) {
            for (int place : places[i]) {
                for (char digit : "/5689:.- a".toCharArray()) {
                    StringBuilder text = new StringBuilder(moves[i]);
                    text.setCharAt(place, digit);
                    performs(text.toString(), -2000 - place);
                }
            }
        }
        FiveShogi x = kings();
        for (int square = 1; square < 24; square++) {
            x.setHand(0, 1, 1);
            Setup.type(x, "g*" + square / 5 + square % 5);
            Due.due("perform()", x.perform(), 1);
            Due.due("man()", x.man(square), 1);
            x.undo();
        }
    }

    /** "A play is a square, "-", a square, and perhaps "+" (the man is promoted)". */
    private static void playsWithAndWithoutPlus() {
        String[] texts = {"10-00", "10-00+", "14-04", "14-04+", "12-02", "12-02+", "10-00++", "10-00+0", "10+00", "10-00-"};
        int[] dues = {NOT_POSSIBLE, 1, 1, 1, 1, NOT_POSSIBLE, -2006, -2006, -2002, -2005};
        int[] men = {NONE, 9, 4, 8, 1, NONE, NONE, NONE, NONE, NONE};
        int[] squares = {0, 0, 4, 4, 2, 2, 0, 0, 0, 0};
        for (int i = 0; i < texts.length; i++) {
            FiveShogi x = new FiveShogi();
            x.clearAll();
            x.put(5, 5);
            x.put(9, 4);
            x.put(7, 1);
            Setup.type(x, texts[i]);
            Due.due("perform() of " + texts[i], x.perform(), dues[i]);
            Due.due("the man behind " + texts[i], x.man(squares[i]), men[i]);
        }
    }

    /** "... or one of the letters "g", "s", "b", "r", "p" (...), "*" and a square (a drop)." */
    private static void lettersOfDrops() {
        for (char letter = ' '; letter < 127; letter++) {
            int kind = "gsbrp".indexOf(letter) + 1;
            FiveShogi x = kings();
            for (int held = 1; held <= 5; held++) {
                x.setHand(0, held, 1);
            }
            Setup.type(x, letter + "*23");
            int due = letter >= '0' && letter <= '4' ? -2001 : kind > 0 ? 1 : -2000;
            Due.due("perform() of " + letter + "*23", x.perform(), due);
            Due.due("the man", x.man(13), kind > 0 ? kind : NONE);
        }
        performs("g*12+", -2004);
        performs("g-12", -2001);
        performs("g**12", -2002);
        performs("g12", -2001);
    }

    /** "The fault of the text is ..., or the length of the text if it ends too early (the empty text does)." */
    private static void faultsOfEachBeginning() {
        String text = "44-43;10-00+;p*12;g*11;12-02";
        String whole = " 5 11 12 17 22 28 ";
        for (int length = 0; length <= text.length(); length++) {
            FiveShogi x = kings();
            Setup.type(x, text.substring(0, length));
            int got = x.perform();
            if (whole.contains(" " + length + " ")) {
                Due.due("no fault at " + length, got == NOT_POSSIBLE || got > 0 ? 1 : 0, 1);
            } else {
                Due.due("the length " + length + " is the fault", got, -2000 - length);
            }
            x.type('?');
            Due.due("the character behind is the fault", x.perform(), -2000 - length);
            x.type('?');
            Due.due("the first such character counts", x.perform(), -2000 - length);
        }
    }

    /** "... the first character that is not allowed at its place": one that is like another but for 256. */
    private static void charactersThatWrapAround() {
        String text = "44-43;g*12;10-00+";
        for (int place = 0; place < text.length(); place++) {
            char sign = text.charAt(place);
            int[] like = {sign + 128, sign + 256, sign + 512, sign + 0x8000, sign + 0xfee0, sign + 0xff00};
            FiveShogi x = kings();
            for (int other : like) {
                Setup.type(x, text.substring(0, place));
                x.type((char) other);
                Due.due("the character " + other + " at " + place, x.perform(), -2000 - place);
            }
        }
        for (int zero : new int[] {0x0660, 0x06f0, 0x0966, 0xff10}) {
            FiveShogi x = kings();
            x.type((char) zero);
            Due.due("another script's digit", x.perform(), -2000);
        }
    }

    // ---- HISTORY

    /** "A history of at most 4 states is kept. ... if there are 4 already, the oldest one is dropped." */
    private static void historiesOf0To5States() {
        for (int changes = 0; changes <= 6; changes++) {
            FiveShogi x = new FiveShogi();
            for (int i = 1; i <= changes; i++) {
                x.put(12, i);
            }
            int kept = Math.min(changes, 4);
            Due.due("states", x.total(12), kept);
            for (int i = 1; i <= kept; i++) {
                Due.due("undo()", x.undo(), kept - i);
                Due.due("man(12)", x.man(12), changes - i == 0 ? NONE : changes - i);
            }
            Due.due("no more", x.undo(), NONE);
            Due.due("man(12) stays", x.man(12), changes <= 4 ? NONE : changes - 4);
        }
    }

    /** "Each call of a method that is described as a change, and that returns neither an error nor NONE". */
    private static void refusedCallsAreNotRecorded() {
        Call[] refused = {
            x -> x.move(25, 0, false), x -> x.move(11, 6, false), x -> x.drop(6, 12), x -> x.drop(1, 12),
            x -> x.make(-1), x -> x.put(25, 1), x -> x.put(11, 0), x -> x.put(12, 5), x -> x.takeOff(-1),
            x -> x.takeOff(11), x -> x.setHand(2, 1, 1), x -> x.setHand(0, 1, 5), x -> x.setHand(0, 1, 0),
            x -> x.setSide(2), x -> x.setSide(0), x -> x.perform(), x -> x.restore()
        };
        for (int i = 0; i < refused.length; i++) {
            FiveShogi x = new FiveShogi();
            Due.due("call " + i, refused[i].on(x) < -1000 || i == 7 ? 1 : 0, 1);
            Due.due("states behind the call " + i, x.total(12), i == 7 ? 1 : 0);
            for (int man = 1; man <= 5; man++) {
                x.put(12, man);
            }
            Due.due("call " + i, refused[i].on(x) < -1000 ? 1 : 0, 1);
            Due.due("states behind the call " + i, x.total(12), 4);
            x.undo();
            x.undo();
            x.undo();
            Due.due("the oldest is still there", x.undo(), 0);
            Due.due("man(12)", x.man(12), 1);
        }
        FiveShogi x = new FiveShogi();
        x.clearAll();
        Due.due("clearAll() of nothing", x.clearAll(), NONE);
        Due.due("states", x.total(12), 1);
        x = new FiveShogi();
        Setup.type(x, "30-20;30-20");
        Due.due("perform() of what is not possible", x.perform(), NOT_POSSIBLE);
        Due.due("states", x.total(12), 0);
    }

    /** "There is one snapshot, empty at first." */
    private static void oneSnapshot() {
        FiveShogi x = new FiveShogi();
        Due.due("empty at first", x.restore(), NONE);
        x.put(12, 1);
        x.undo();
        Due.due("a history makes none", x.restore(), NONE);
        x.takeOff(0);
        Due.due("keep()", x.keep(), 11);
        x.takeOff(1);
        Due.due("keep() again", x.keep(), 10);
        x.clearAll();
        Due.due("the later one", x.restore(), 10);
        x.clearAll();
        Due.due("the later one again", x.restore(), 10);
    }

    /** "The state is everything except the text, the history and the snapshot." */
    private static void theStateIsEverythingElse() {
        FiveShogi x = Setup.of(". . . k . r . . . . P . . . . . . . . . . . . . K", 0, "Gp");
        x.move(10, 5, false);
        x.make(304);
        x.make(10500);
        x.drop(5, 11);
        x.drop(1, 12);
        Setup.type(x, "30-20");
        x.keep();
        String kept = Seen.of(x);
        Due.due("plays", x.total(8), 5);
        Due.due("taken", x.total(9), 1);
        Due.due("promoted", x.total(10), 1);
        Due.due("dropped", x.total(11), 2);
        x.clearText();
        x.clearAll();
        x.setSide(0);
        x.undo();
        x.undo();
        x.type('7');
        x.restore();
        Due.due("the text is not restored", x.total(13), 1);
        Setup.type(x, "30-20");
        Due.due("the history is not restored", x.total(12), 3);
        x.put(12, 1);
        x.put(12, 2);
        x.undo();
        x.undo();
        Due.due("the history goes on", x.total(12), 2);
        x.put(12, 3);
        x.takeOff(12);
        x.restore();
        Due.due("all else is restored", Seen.of(x).equals(kept) ? 1 : 0, 1);
        x.takeOff(12);
        x.undo();
        Due.due("all else is as it was", x.man(12), 1);
        x.clearText();
        x.undo();
        Due.due("undo() leaves the text", x.total(13), 0);
        Due.due("undo() leaves the snapshot", x.restore(), 5);
    }

    // ---- ERRORS

    /** "The constants: ...", each by a call that returns it. */
    private static void errorsAndNone() {
        FiveShogi x = new FiveShogi();
        Due.due("UNKNOWN", x.man(25), FiveShogi.UNKNOWN);
        Due.due("UNKNOWN", FiveShogi.UNKNOWN, UNKNOWN);
        Due.due("OUT_OF_RANGE", x.total(14), FiveShogi.OUT_OF_RANGE);
        Due.due("OUT_OF_RANGE", FiveShogi.OUT_OF_RANGE, OUT_OF_RANGE);
        Due.due("NOT_POSSIBLE", x.make(0), FiveShogi.NOT_POSSIBLE);
        Due.due("NOT_POSSIBLE", FiveShogi.NOT_POSSIBLE, NOT_POSSIBLE);
        Due.due("NONE", x.man(12), FiveShogi.NONE);
        Due.due("NONE", FiveShogi.NONE, NONE);
        for (int i = 0; i < 60; i++) {
            x.type('0');
        }
        Due.due("FULL", x.type('0'), FiveShogi.FULL);
        Due.due("FULL", FiveShogi.FULL, FULL);
    }

    /** "If several errors apply, the one that stands first in the @return line is returned. NONE ... only if ..." */
    private static void theFirstErrorIsReturned() {
        FiveShogi x = new FiveShogi();
        Due.due("move: a square, and no man", x.move(12, 25, false), UNKNOWN);
        Due.due("move: a square, and no man", x.move(-1, 12, true), UNKNOWN);
        Due.due("drop: a kind, and a man there", x.drop(6, 20), UNKNOWN);
        Due.due("drop: a square, and no man in the hand", x.drop(5, 25), UNKNOWN);
        Due.due("put: a square, and a king elsewhere", x.put(25, 0), UNKNOWN);
        Due.due("put: a square and a man", x.put(-1, 20), UNKNOWN);
        Due.due("put: a king elsewhere, and a man there", x.put(4, 0), NOT_POSSIBLE);
        Due.due("setHand: a side and a number", x.setHand(2, 1, 5), UNKNOWN);
        Due.due("setHand: a kind and a number", x.setHand(0, 6, -1), UNKNOWN);
        Due.due("setHand: a side, and as many already", x.setHand(-1, 1, 0), UNKNOWN);
        Due.due("setHand: a kind, and as many already", x.setHand(1, 0, 0), UNKNOWN);
        Due.due("hand: a side and a kind", x.hand(2, 6), UNKNOWN);
        Due.due("attackers: a side and a square", x.attackers(2, 25), UNKNOWN);
        Due.due("moveReason: a square, and no man", x.moveReason(12, 25, true), UNKNOWN);
        Due.due("dropReason: a kind, and a man there", x.dropReason(0, 20), UNKNOWN);
        x.clearAll();
        Due.due("playAt: a rank, and no plays", x.playAt(-1), OUT_OF_RANGE);
        Due.due("attacked: a square, and no men", x.attacked(25), UNKNOWN);
        Due.due("takeOff: a square, and no men", x.takeOff(25), UNKNOWN);
        Due.due("man: a square, and no men", x.man(25), UNKNOWN);
        Setup.type(x, "00-00;44-44;7");
        Due.due("perform: a fault behind plays that are not possible", x.perform(), -2012);
    }

    /** "A method that returns an error or NONE changes nothing." */
    private static void errorsAndNoneChangeNothing() {
        Call[] refused = {
            x -> x.move(-1, 10, false), x -> x.move(25, 10, false), x -> x.move(15, -1, false),
            x -> x.move(15, 25, false), x -> x.move(15, 5, false), x -> x.move(20, 15, false),
            x -> x.move(15, 10, true), x -> x.move(0, 5, false), x -> x.drop(0, 12), x -> x.drop(6, 12),
            x -> x.drop(5, -1), x -> x.drop(5, 25), x -> x.drop(5, 2), x -> x.drop(5, 10), x -> x.drop(1, 12),
            x -> x.make(-1), x -> x.make(1505), x -> x.make(20502), x -> x.make(99999), x -> x.put(-1, 1),
            x -> x.put(25, 1), x -> x.put(12, -1), x -> x.put(12, 20), x -> x.put(12, 10), x -> x.put(4, 10),
            x -> x.takeOff(-1), x -> x.takeOff(25), x -> x.takeOff(12), x -> x.setHand(-1, 5, 1),
            x -> x.setHand(2, 5, 1), x -> x.setHand(0, 0, 1), x -> x.setHand(0, 6, 1), x -> x.setHand(0, 5, -1),
            x -> x.setHand(0, 5, 5), x -> x.setHand(0, 5, 2), x -> x.setSide(-1), x -> x.setSide(2),
            x -> x.setSide(0), x -> x.perform(), x -> x.restore(), x -> x.man(12), x -> x.man(25),
            x -> x.hand(0, 6), x -> x.attackers(0, 25), x -> x.attacked(12), x -> x.attacked(25),
            x -> x.total(14), x -> x.worth(2), x -> x.moveReason(25, 0, false), x -> x.dropReason(6, 0),
            x -> x.playAt(-1), x -> x.playAt(9999), x -> x.drops(6), x -> x.mate()
        };
        String[] texts = {"30-20;00-10;30-20", "30-20;00-10;x"};
        for (int i = 0; i < refused.length; i++) {
            FiveShogi x = new FiveShogi();
            x.setHand(0, 5, 2);
            Setup.type(x, texts[i % 2]);
            String before = Seen.of(x);
            Due.due("call " + i + " is refused", refused[i].on(x) < -1000 ? 1 : 0, 1);
            Seen.same("call " + i, before, x);
            Due.due("the history is what it was", x.undo(), 0);
            Due.due("the hand is what it was", x.hand(0, 5), 0);
            Due.due("there is still no snapshot", x.restore(), NONE);
        }
        FiveShogi x = new FiveShogi();
        x.keep();
        String before = Seen.of(x);
        Due.due("undo() of nothing", x.undo(), NONE);
        Seen.same("undo()", before, x);
        x.clearAll();
        before = Seen.of(x);
        Due.due("clearAll() of nothing", x.clearAll(), NONE);
        Due.due("tightest() of nothing", x.tightest(), NONE);
        Seen.same("clearAll(), tightest()", before, x);
        for (int i = 0; i < 60; i++) {
            x.type(i < 5 ? "44-43".charAt(i) : '4');
        }
        before = Seen.of(x);
        Due.due("type() into a full text", x.type('4'), FULL);
        Seen.same("type()", before, x);
        Due.due("the text reads as before", x.perform(), -2005);
    }
}
