/** Promises 5 to 9 (put, takeOff, setHand, clearAll, setSide): the boundary cases of each sentence. */
public final class PositionEdgesTest {
    private static final int UNKNOWN = -1001;
    private static final int OUT_OF_RANGE = -1002;
    private static final int NOT_POSSIBLE = -1004;
    private static final int NONE = -1005;
    private static final int[] FAR = {
        Integer.MIN_VALUE, -256, -100, -2, 100, 255, 256, 1 << 16, Integer.MAX_VALUE
    };

    public static void main(String[] args) {
        promise5FromNoManToAFullBoard();
        promise5InPlaceOfEachMan();
        promise5UnknownSquaresAndMen();
        promise5KingsOnAnotherSquare();
        promise5NoneIfItIsThereAlready();
        promise5WhatNoPlayCouldPut();
        promise6AnswersEachMan();
        promise6UnknownSquares();
        promise6NoneIfNoneIsThere();
        promise7From0To4();
        promise7MoreThan4ByTaking();
        promise7UnknownAndOutOfRange();
        promise7NoneIfItHasSoManyAlready();
        promise8HowManyThereWere();
        promise8NoneIfThereWereNone();
        promise8WhatStays();
        promise9AnswersThePlaysAllowed();
        promise9UnknownAndNone();
        changesOfPositionsAreChanges();
        Due.end();
    }

    /** "Returns how many men there are on the board then": 1 to 25, the hands not counted. */
    private static void promise5FromNoManToAFullBoard() {
        FiveShogi x = new FiveShogi();
        x.clearAll();
        x.setHand(0, 1, 4);
        for (int square = 24; square >= 0; square--) {
            Due.due("put()", x.put(square, square % 10 == 0 ? 1 : square % 20), 25 - square);
        }
        Due.due("a full board", x.put(0, 19), 25);
        Due.due("a full board", x.put(24, 19), 25);
        Due.due("men", x.total(1), 25);
    }

    /** "Puts a man onto the board, in place of what is there": what is there comes into no hand. */
    private static void promise5InPlaceOfEachMan() {
        for (int there = 0; there < 20; there++) {
            for (int man = 0; man < 20; man++) {
                FiveShogi x = new FiveShogi();
                x.clearAll();
                x.put(0, there);
                Due.due("the man " + man + " in place of " + there, x.put(0, man), man == there ? NONE : 1);
                Due.due("the man", x.man(0), man);
                Due.due("hands", x.total(2) + x.total(3), 0);
                Due.due("taken", x.total(9), 0);
                Due.due("a king that is gone can come again", x.put(24, 10 * (there / 10)),
                        man == 10 * (there / 10) ? NOT_POSSIBLE : 2);
            }
        }
    }

    /** "UNKNOWN (square, or there is no such man)": just outside, and far outside. */
    private static void promise5UnknownSquaresAndMen() {
        FiveShogi x = new FiveShogi();
        String before = Seen.of(x);
        for (int far : FAR) {
            Due.due("the square " + far, x.put(far, 1), UNKNOWN);
            Due.due("the man " + far, x.put(12, far), UNKNOWN);
        }
        for (int outside : new int[] {-1, 25}) {
            Due.due("the square " + outside, x.put(outside, 1), UNKNOWN);
        }
        for (int outside : new int[] {-1, 20, 21, 30, 99, -10, NONE}) {
            Due.due("the man " + outside, x.put(12, outside), UNKNOWN);
            Due.due("the man " + outside + " on a man", x.put(0, outside), UNKNOWN);
        }
        Seen.same("put()", before, x);
        Due.due("the square 0, the man 9", x.put(0, 9), 12);
        Due.due("the square 24, the man 19", x.put(24, 19), 12);
    }

    /** "NOT_POSSIBLE if it is a king, and its side has one on another square". */
    private static void promise5KingsOnAnotherSquare() {
        for (int side = 0; side < 2; side++) {
            for (int square = 0; square < 25; square++) {
                FiveShogi x = new FiveShogi();
                int king = side == 0 ? 20 : 4;
                Due.due("a king of " + side + " on " + square, x.put(square, 10 * side), square == king ? NONE : NOT_POSSIBLE);
                Due.due("history", x.total(12), 0);
                x.takeOff(king);
                int men = x.man(square) == NONE ? 12 : 11;
                Due.due("the king comes to " + square, x.put(square, 10 * side), men);
                Due.due("it is there", x.man(square), 10 * side);
            }
        }
        FiveShogi x = new FiveShogi();
        x.clearAll();
        Due.due("a king of the side 0", x.put(0, 0), 1);
        Due.due("a king of the side 1", x.put(1, 10), 2);
        Due.due("a king onto another side's king", x.put(1, 0), NOT_POSSIBLE);
        Due.due("a gold in place of a king", x.put(0, 1), 2);
        Due.due("a king onto another side's king", x.put(1, 0), 2);
        Due.due("the other side has none now", x.put(24, 10), 3);
        x.undo();
        x.undo();
        Due.due("the other side has one again", x.put(24, 10), NOT_POSSIBLE);
    }

    /** "NONE if it is there already": each man; not if it is the other side's, or another kind. */
    private static void promise5NoneIfItIsThereAlready() {
        FiveShogi x = new FiveShogi();
        x.clearAll();
        for (int man = 0; man < 20; man++) {
            Due.due("not there yet", x.put(12, man), 1);
            Due.due("there already", x.put(12, man), NONE);
            Due.due("of the other side", x.put(12, (man + 10) % 20), 1);
            Due.due("not there any more", x.put(12, man), 1);
        }
        Due.due("history", x.total(12), 4);
    }

    /** "Puts a man onto the board": also a pawn on its last row, a second one in a column, men that give check. */
    private static void promise5WhatNoPlayCouldPut() {
        FiveShogi x = new FiveShogi();
        Due.due("a pawn on its last row", x.put(0, 5), 12);
        Due.due("a pawn on the last row of the side 1", x.put(22, 15), 12);
        Due.due("a second pawn in a column", x.put(5, 5), 13);
        Due.due("a man that attacks the king of the other side", x.put(9, 1), 13);
        Due.due("a man that attacks the king", x.put(16, 11), 14);
        Due.due("check", x.total(4), 1);
        Due.due("no play is counted", x.total(8), 0);
        Due.due("the side to play stays", x.total(0), 0);
    }

    /** "Returns the man": each man, on the first and the last square. */
    private static void promise6AnswersEachMan() {
        FiveShogi x = new FiveShogi();
        x.clearAll();
        for (int man = 0; man < 20; man++) {
            int square = man % 2 == 0 ? 0 : 24;
            x.put(square, man);
            Due.due("takeOff(" + square + ")", x.takeOff(square), man);
            Due.due("man(" + square + ")", x.man(square), NONE);
            Due.due("men", x.total(1), 0);
            Due.due("hands", x.total(2) + x.total(3), 0);
        }
        Due.due("history", x.total(12), 4);
    }

    /** "UNKNOWN": just outside, and far outside. */
    private static void promise6UnknownSquares() {
        FiveShogi x = new FiveShogi();
        String before = Seen.of(x);
        Due.due("-1", x.takeOff(-1), UNKNOWN);
        Due.due("25", x.takeOff(25), UNKNOWN);
        for (int far : FAR) {
            Due.due("the square " + far, x.takeOff(far), UNKNOWN);
        }
        Seen.same("takeOff()", before, x);
    }

    /** "NONE if none is there": on each square of an empty board, and behind the last man. */
    private static void promise6NoneIfNoneIsThere() {
        FiveShogi x = new FiveShogi();
        x.setHand(0, 1, 4);
        for (int square = 0; square < 25; square++) {
            int there = x.man(square);
            Due.due("takeOff(" + square + ")", x.takeOff(square), there);
            Due.due("takeOff(" + square + ") again", x.takeOff(square), NONE);
        }
        Due.due("men", x.total(1), 0);
        Due.due("the hand stays", x.hand(0, 1), 4);
        Due.due("history", x.total(12), 4);
    }

    /** "many: 0 to 4"; "Returns how many it had". */
    private static void promise7From0To4() {
        for (int side = 0; side < 2; side++) {
            for (int kind = 1; kind <= 5; kind++) {
                FiveShogi x = new FiveShogi();
                int had = 0;
                for (int many : new int[] {4, 0, 1, 3, 2, 4, 1, 0}) {
                    Due.due("setHand()", x.setHand(side, kind, many), had);
                    Due.due("hand()", x.hand(side, kind), many);
                    Due.due("all of the side", x.total(2 + side), many);
                    Due.due("all of the other side", x.total(3 - side), 0);
                    had = many;
                }
            }
        }
    }

    /** "Returns how many it had": more than the 4 that can be set. */
    private static void promise7MoreThan4ByTaking() {
        FiveShogi x = Setup.of(". . . . . . . . . . . +p . . . . +P . . . . . . . .", 0, "PPPP");
        Due.due("taking", x.move(16, 11, false), 19);
        Due.due("five", x.hand(0, 5), 5);
        Due.due("6 men", x.setHand(0, 5, 6), OUT_OF_RANGE);
        Due.due("as many as it has, but out of range", x.setHand(0, 5, 5), OUT_OF_RANGE);
        Due.due("it had five", x.setHand(0, 5, 4), 5);
        Due.due("undo()", x.undo() >= 0 ? 1 : 0, 1);
        Due.due("five again", x.hand(0, 5), 5);
        Due.due("to none", x.setHand(0, 5, 0), 5);
    }

    /** "UNKNOWN (side or kind); OUT_OF_RANGE": just outside, and far outside. */
    private static void promise7UnknownAndOutOfRange() {
        FiveShogi x = new FiveShogi();
        String before = Seen.of(x);
        for (int far : FAR) {
            Due.due("the side " + far, x.setHand(far, 1, 1), UNKNOWN);
            Due.due("the kind " + far, x.setHand(0, far, 1), UNKNOWN);
            Due.due(far + " men", x.setHand(0, 1, far), OUT_OF_RANGE);
            Due.due("all", x.setHand(far, far, far), UNKNOWN);
        }
        for (int side : new int[] {-1, 2, 10}) {
            Due.due("the side " + side, x.setHand(side, 1, 1), UNKNOWN);
        }
        for (int kind : new int[] {-1, 0, 6, 7, 8, 9, 10, 11}) {
            Due.due("the kind " + kind, x.setHand(1, kind, 1), UNKNOWN);
        }
        for (int many : new int[] {-1, 5}) {
            Due.due(many + " men", x.setHand(1, 5, many), OUT_OF_RANGE);
        }
        Seen.same("setHand()", before, x);
    }

    /** "NONE if it has so many already": 0 and 4 too. */
    private static void promise7NoneIfItHasSoManyAlready() {
        FiveShogi x = new FiveShogi();
        Due.due("none", x.setHand(1, 5, 0), NONE);
        Due.due("history", x.total(12), 0);
        for (int many = 1; many <= 4; many++) {
            Due.due("setHand()", x.setHand(1, 5, many), many - 1);
            Due.due("again", x.setHand(1, 5, many), NONE);
            Due.due("the other side has none", x.setHand(0, 5, 0), NONE);
            Due.due("history", x.total(12), many);
        }
    }

    /** "Returns how many there were": "men off the board and out of both hands", from 1 to 65 and more. */
    private static void promise8HowManyThereWere() {
        Due.due("at first", new FiveShogi().clearAll(), 12);
        FiveShogi x = new FiveShogi();
        for (int square = 0; square < 25; square++) {
            x.put(square, square == 20 ? 0 : square == 4 ? 10 : 1 + square % 9);
        }
        for (int side = 0; side < 2; side++) {
            for (int kind = 1; kind <= 5; kind++) {
                x.setHand(side, kind, 4);
            }
        }
        Due.due("all that can be put", x.clearAll(), 65);
        for (int square = 0; square < 25; square++) {
            Due.due("man(" + square + ")", x.man(square), NONE);
        }
        for (int kind = 1; kind <= 5; kind++) {
            Due.due("hand(0)", x.hand(0, kind), 0);
            Due.due("hand(1)", x.hand(1, kind), 0);
        }
        Due.due("undo()", x.undo(), 3);
        Due.due("all are back", x.clearAll(), 65);
        x.put(24, 0);
        Due.due("one man", x.clearAll(), 1);
        x.setHand(0, 5, 1);
        Due.due("one man in the hand of 0", x.clearAll(), 1);
        x.setHand(1, 1, 1);
        Due.due("one man in the hand of 1", x.clearAll(), 1);
        Due.due("a king can come again", x.put(0, 0), 1);
    }

    /** "NONE if there were none." */
    private static void promise8NoneIfThereWereNone() {
        FiveShogi x = new FiveShogi();
        x.clearAll();
        Due.due("none", x.clearAll(), NONE);
        Due.due("none again", x.clearAll(), NONE);
        Due.due("history", x.total(12), 1);
        x.put(0, 0);
        x.takeOff(0);
        x.setHand(0, 1, 1);
        x.setHand(0, 1, 0);
        Due.due("none", x.clearAll(), NONE);
    }

    /** "Takes all men off the board and out of both hands": and nothing else. */
    private static void promise8WhatStays() {
        FiveShogi x = new FiveShogi();
        x.move(24, 9, false);
        x.move(4, 9, false);
        x.drop(5, 14);
        x.type('g');
        x.keep();
        Due.due("men and hands", x.clearAll(), 12);
        int[] totals = {1, 0, 0, 0, 0, 0, 1, 0, 3, 2, 0, 1, 4, 1};
        for (int what = 0; what < totals.length; what++) {
            Due.due("total(" + what + ")", x.total(what), totals[what]);
        }
        Due.due("the snapshot", x.restore(), 11);
    }

    /** "Returns how many plays are allowed then": none, one in check, and many. */
    private static void promise9AnswersThePlaysAllowed() {
        FiveShogi x = new FiveShogi();
        x.clearAll();
        Due.due("no men", x.setSide(1), 0);
        x.put(12, 0);
        Due.due("a king in the middle", x.setSide(0), 8);
        Due.due("the other side has none", x.setSide(1), 0);
        for (int kind = 1; kind <= 5; kind++) {
            x.setHand(1, kind, 4);
        }
        Due.due("a king in the middle", x.setSide(0), 8);
        Due.due("all drops", x.setSide(1), 4 * 24 + 19);
        x.takeOff(12);
        x.setSide(0);
        Due.due("all drops on an empty board", x.setSide(1), 4 * 25 + 20);
        x = Setup.of("k . . . . . . . . . . R . . . . . . . . R . . . K", 0, "");
        Due.due("mated", x.setSide(1), 0);
        Due.due("the side is set all the same", x.total(0), 1);
        x.setHand(1, 5, 1);
        x.setSide(0);
        Due.due("three drops between", x.setSide(1), 3);
        Due.due("setSide() is no play", x.total(8), 0);
    }

    /** "side: 0 or 1"; "UNKNOWN; NONE if it is to play already". */
    private static void promise9UnknownAndNone() {
        FiveShogi x = new FiveShogi();
        String before = Seen.of(x);
        for (int far : FAR) {
            Due.due("the side " + far, x.setSide(far), UNKNOWN);
        }
        Due.due("-1", x.setSide(-1), UNKNOWN);
        Due.due("2", x.setSide(2), UNKNOWN);
        Due.due("0 already", x.setSide(0), NONE);
        Seen.same("setSide()", before, x);
        Due.due("1", x.setSide(1), 14);
        Due.due("1 already", x.setSide(1), NONE);
        Due.due("history", x.total(12), 1);
        x.make(x.playAt(0));
        Due.due("0 already, by a play", x.setSide(0), NONE);
    }

    /** "This is a change": each of the five can be undone, and drops the oldest of four states. */
    private static void changesOfPositionsAreChanges() {
        for (int which = 0; which < 5; which++) {
            FiveShogi x = new FiveShogi();
            for (int i = 1; i <= 3; i++) {
                x.put(12, i);
            }
            String before = Seen.of(x);
            change(x, which);
            Due.due("a change", x.total(12), 4);
            Due.due("undo()", x.undo(), 3);
            Seen.same("the change and undo()", before, x);
            x.put(12, 4);
            change(x, which);
            Due.due("four states", x.total(12), 4);
            for (int man = 4; man >= 1; man--) {
                Due.due("undo()", x.undo(), man - 1);
                Due.due("man(12)", x.man(12), man);
            }
            Due.due("the oldest one is dropped", x.undo(), NONE);
        }
    }

    private static void change(FiveShogi x, int which) {
        if (which == 0) {
            Due.due("put()", x.put(0, 1), 13);
        } else if (which == 1) {
            Due.due("takeOff()", x.takeOff(20), 0);
        } else if (which == 2) {
            Due.due("setHand()", x.setHand(1, 5, 4), 0);
        } else if (which == 3) {
            Due.due("clearAll()", x.clearAll(), 13);
        } else {
            Due.due("setSide()", x.setSide(1) > 0 ? 1 : 0, 1);
        }
    }
}
