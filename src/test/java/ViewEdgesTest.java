/** Promises 16 to 21 (man, hand, attackers, attacked, total, worth): the boundary cases of each sentence. */
public final class ViewEdgesTest {
    private static final int UNKNOWN = -1001;
    private static final int OUT_OF_RANGE = -1002;
    private static final int NONE = -1005;
    private static final int[] FAR = {
        Integer.MIN_VALUE, Integer.MIN_VALUE + 12, -256, -100, -2, 100, 255, 256, 268, 1 << 16, Integer.MAX_VALUE
    };

    public static void main(String[] args) {
        promise16EachSquare();
        promise16Unknown();
        promise17From0ToMoreThan4();
        promise17Unknown();
        promise18NoneToEight();
        promise18AlongALine();
        promise18UnknownSidesAndSquares();
        promise19NoSquares();
        promise19TheFirstAndTheLastBit();
        promise19UnknownAndNone();
        promise20TheNumbersFrom0To13();
        promise20OutOfRange();
        promise20CountsByEachCall();
        promise20WhatDoesNotCount();
        promise20MenInTheHands();
        promise20HistoryAndText();
        promise21Unknown();
        promise21BothSides();
        promise21AsLowAsTheErrors();
        askingChangesNothing();
        Due.end();
    }

    /** "Returns the man; ... NONE if none is there": each square, empty and not. */
    private static void promise16EachSquare() {
        FiveShogi x = new FiveShogi();
        x.clearAll();
        for (int square = 0; square < 25; square++) {
            Due.due("man(" + square + ")", x.man(square), NONE);
            x.put(square, square % 20);
            Due.due("man(" + square + ")", x.man(square), square % 20);
            x.takeOff(square);
            Due.due("man(" + square + ")", x.man(square), NONE);
            x.put(square, 1 + square % 9);
        }
    }

    /** "UNKNOWN": just outside, and far outside. */
    private static void promise16Unknown() {
        FiveShogi x = new FiveShogi();
        Due.due("man(-1)", x.man(-1), UNKNOWN);
        Due.due("man(25)", x.man(25), UNKNOWN);
        for (int far : FAR) {
            Due.due("man(" + far + ")", x.man(far), UNKNOWN);
        }
        x.clearAll();
        Due.due("man(-1) of an empty board", x.man(-1), UNKNOWN);
        Due.due("man(25) of an empty board", x.man(25), UNKNOWN);
    }

    /** "Returns how many": 0 to 4 by setHand(), 5 by taking, and one less by a drop. */
    private static void promise17From0ToMoreThan4() {
        for (int side = 0; side < 2; side++) {
            for (int kind = 1; kind <= 5; kind++) {
                FiveShogi x = new FiveShogi();
                x.clearAll();
                for (int many = 0; many <= 4; many++) {
                    x.setHand(side, kind, many);
                    for (int held = 1; held <= 5; held++) {
                        Due.due("hand()", x.hand(side, held), held == kind ? many : 0);
                        Due.due("hand() of the other side", x.hand(1 - side, held), 0);
                    }
                }
                x.setSide(side);
                x.put(12, 10 * side);
                x.put(13, 10 * (1 - side) + kind);
                x.move(12, 13, false);
                Due.due("five", x.hand(side, kind), 5);
                x.setSide(side);
                x.drop(kind, 10);
                Due.due("four", x.hand(side, kind), 4);
            }
        }
    }

    /** "side: 0 or 1", "kind: 1 to 5"; "UNKNOWN". */
    private static void promise17Unknown() {
        FiveShogi x = new FiveShogi();
        for (int side : new int[] {-1, 2}) {
            Due.due("the side " + side, x.hand(side, 1), UNKNOWN);
        }
        for (int kind : new int[] {-1, 0, 6, 7, 9, 10, 11, 15}) {
            Due.due("the kind " + kind, x.hand(0, kind), UNKNOWN);
            Due.due("the kind " + kind, x.hand(1, kind), UNKNOWN);
        }
        for (int far : FAR) {
            Due.due("the side " + far, x.hand(far, 1), UNKNOWN);
            Due.due("the kind " + far, x.hand(0, far), UNKNOWN);
        }
        Due.due("hand(0, 1)", x.hand(0, 1), 0);
        Due.due("hand(1, 5)", x.hand(1, 5), 0);
    }

    /** "Returns how many men of a side attack a square": 0 to 8, whoever is to play. */
    private static void promise18NoneToEight() {
        int[] around = {6, 7, 8, 11, 13, 16, 17, 18};
        for (int side = 0; side < 2; side++) {
            FiveShogi x = new FiveShogi();
            x.clearAll();
            Due.due("none", x.attackers(side, 12), 0);
            for (int i = 0; i < 8; i++) {
                int kind = around[i] % 2 == 0 ? 7 : 8;
                x.put(around[i], 10 * side + kind);
                Due.due("attackers", x.attackers(side, 12), i + 1);
                Due.due("of the other side", x.attackers(1 - side, 12), 0);
            }
            x.put(12, 10 * side + 1);
            Due.due("a man of its own is there", x.attackers(side, 12), 8);
            x.put(12, 10 * (1 - side));
            Due.due("the other side's king is there", x.attackers(side, 12), 8);
            x.setSide(1);
            Due.due("the side 1 is to play", x.attackers(side, 12), 8);
        }
        FiveShogi x = Setup.of("R . R . . . . . . . R . . . . . . . . . . . . . .", 0, "");
        Due.due("the first square", x.attackers(0, 0), 2);
        Due.due("a corner between", x.attackers(0, 12), 2);
        Due.due("the last square", x.attackers(0, 24), 0);
    }

    /** "Returns how many men of a side attack a square": of two men in one line the nearer one. */
    private static void promise18AlongALine() {
        FiveShogi x = Setup.of("R R . r . . . . . . . . . . . . . . . . b . . . b", 0, "");
        Due.due("the nearer rook", x.attackers(0, 2), 1);
        Due.due("a rook attacks the other", x.attackers(0, 1), 1);
        Due.due("a rook is attacked by the other", x.attackers(0, 0), 1);
        Due.due("from both ends", x.attackers(1, 2), 1);
        Due.due("two slants", x.attackers(1, 12), 2);
        Due.due("a rook and a slant", x.attackers(1, 8), 2);
        Due.due("a slant and an end", x.attackers(1, 0), 1);
        x.put(12, 5);
        Due.due("a man between", x.attackers(1, 8), 1);
        Due.due("a man between", x.attackers(1, 0), 0);
        Due.due("the man between", x.attackers(1, 12), 2);
    }

    /** "side: 0 or 1", "square: a square"; "UNKNOWN". */
    private static void promise18UnknownSidesAndSquares() {
        FiveShogi x = new FiveShogi();
        for (int far : FAR) {
            Due.due("the side " + far, x.attackers(far, 12), UNKNOWN);
            Due.due("the square " + far, x.attackers(0, far), UNKNOWN);
            Due.due("both", x.attackers(far, far), UNKNOWN);
        }
        for (int side : new int[] {-1, 2, 10}) {
            Due.due("the side " + side, x.attackers(side, 0), UNKNOWN);
        }
        for (int square : new int[] {-1, 25}) {
            Due.due("the square " + square, x.attackers(1, square), UNKNOWN);
        }
        Due.due("the first ones", x.attackers(0, 0), 0);
        Due.due("the last ones", x.attackers(1, 24), 0);
    }

    /** "Returns the squares ...": none is 0, and not NONE. */
    private static void promise19NoSquares() {
        FiveShogi x = new FiveShogi();
        x.clearAll();
        for (int column = 0; column < 5; column++) {
            x.put(column, 5);
            Due.due("a pawn on the row 0", x.attacked(column), 0);
            x.put(20 + column, 15);
            Due.due("a pawn of the side 1 on the row 4", x.attacked(20 + column), 0);
            x.put(column, 15);
            Due.due("a pawn of the side 1 on the row 0", x.attacked(column), 1 << column + 5);
            x.put(20 + column, 5);
            Due.due("a pawn on the row 4", x.attacked(20 + column), 1 << column + 15);
        }
    }

    /** "... as bits (bit s for the square s)": the bits 0 and 24. */
    private static void promise19TheFirstAndTheLastBit() {
        FiveShogi x = new FiveShogi();
        x.clearAll();
        x.put(5, 5);
        Due.due("the bit 0", x.attacked(5), 1);
        x.put(19, 15);
        Due.due("the bit 24", x.attacked(19), 1 << 24);
        x.put(12, 3);
        Due.due("both", x.attacked(12), Setup.bits(0, 6, 18, 24, 4, 8, 16, 20));
    }

    /** "UNKNOWN; NONE if no man is there." */
    private static void promise19UnknownAndNone() {
        FiveShogi x = new FiveShogi();
        for (int far : FAR) {
            Due.due("attacked(" + far + ")", x.attacked(far), UNKNOWN);
        }
        Due.due("attacked(-1)", x.attacked(-1), UNKNOWN);
        Due.due("attacked(25)", x.attacked(25), UNKNOWN);
        Due.due("no man", x.attacked(5), NONE);
        x.clearAll();
        for (int square = 0; square < 25; square++) {
            Due.due("attacked(" + square + ") of an empty board", x.attacked(square), NONE);
        }
    }

    /** "what: 0 for the side to play, ... 13 for the length of the text": each of them, once not as at first. */
    private static void promise20TheNumbersFrom0To13() {
        FiveShogi x = Setup.of("k . . . . . P . . . r . . . . R . . . . . . . . K", 0, "GGp");
        x.make(10601);
        x.make(1);
        x.make(1510);
        x.setHand(0, 1, 1);
        x.setSide(0);
        x.make(20122);
        Setup.type(x, "abc");
        int[] totals = {1, 4, 1, 2, 0, 0, 0, 3 + 18, 4, 2, 1, 1, 4, 3};
        for (int what = 0; what < totals.length; what++) {
            Due.due("total(" + what + ")", x.total(what), totals[what]);
        }
        x = Setup.of("k . . . . . . . . . . . . . . . . . . . R . . . K", 1, "");
        Due.due("in check", x.total(4), 1);
        Due.due("mated", x.total(5), 0);
        Due.due("lost", x.total(6), 0);
        Due.due("the plays", x.total(7), 2);
        x.put(11, 4);
        Due.due("in check", x.total(4), 1);
        Due.due("mated", x.total(5), 1);
        Due.due("lost", x.total(6), 1);
        Due.due("the plays", x.total(7), 0);
    }

    /** "OUT_OF_RANGE": just outside, and far outside. */
    private static void promise20OutOfRange() {
        FiveShogi x = new FiveShogi();
        Due.due("total(-1)", x.total(-1), OUT_OF_RANGE);
        Due.due("total(14)", x.total(14), OUT_OF_RANGE);
        for (int far : FAR) {
            Due.due("total(" + far + ")", x.total(far), OUT_OF_RANGE);
        }
    }

    private static void counts(FiveShogi x, int plays, int taken, int promoted, int dropped) {
        Due.due("plays made so far", x.total(8), plays);
        Due.due("men taken so far", x.total(9), taken);
        Due.due("men promoted so far", x.total(10), promoted);
        Due.due("men dropped so far", x.total(11), dropped);
    }

    /** "(8 to 11 by move(), drop(), make() and perform())": each of the four, for both sides. */
    private static void promise20CountsByEachCall() {
        FiveShogi x = Setup.of(". . . . . P P P P P . . . . . p p p p p . . . . .", 0, "GGGggg");
        x.put(0, 11);
        x.put(24, 1);
        counts(x, 0, 0, 0, 0);
        x.move(5, 0, true);
        counts(x, 1, 1, 1, 0);
        x.move(19, 24, true);
        counts(x, 2, 2, 2, 0);
        x.make(10601);
        counts(x, 3, 2, 3, 0);
        x.make(11823);
        counts(x, 4, 2, 4, 0);
        Setup.type(x, "12-02+;32-42+;g*22;g*23");
        x.perform();
        counts(x, 8, 2, 6, 2);
        x.drop(1, 10);
        counts(x, 9, 2, 6, 3);
        x.make(20114);
        counts(x, 10, 2, 6, 4);
        x.move(12, 13, false);
        counts(x, 11, 3, 6, 4);
        x.undo();
        counts(x, 10, 2, 6, 4);
        x.undo();
        x.undo();
        x.undo();
        counts(x, 4, 2, 4, 0);
    }

    /** "(8 to 11 by move(), drop(), make() and perform())": by no other call, and by none that is refused. */
    private static void promise20WhatDoesNotCount() {
        FiveShogi x = new FiveShogi();
        x.put(12, 9);
        x.put(4, 15);
        x.takeOff(12);
        x.setHand(0, 5, 4);
        x.setHand(0, 5, 3);
        x.setSide(1);
        x.setSide(0);
        x.mate();
        x.tightest();
        x.playAt(0);
        x.drops(5);
        x.moveReason(15, 10, false);
        x.dropReason(5, 11);
        x.keep();
        x.clearAll();
        x.restore();
        x.move(15, 10, true);
        x.drop(5, 10);
        x.make(0);
        Setup.type(x, "30-20;30-20");
        x.perform();
        counts(x, 0, 0, 0, 0);
        x.move(15, 10, false);
        counts(x, 1, 0, 0, 0);
        x.clearAll();
        counts(x, 1, 0, 0, 0);
    }

    /** "2 for the men in the hand of the side 0, 3 for those of the side 1": none, one kind, all kinds. */
    private static void promise20MenInTheHands() {
        FiveShogi x = new FiveShogi();
        for (int kind = 1; kind <= 5; kind++) {
            x.setHand(0, kind, 4);
            Due.due("the hand of 0", x.total(2), 4 * kind);
            Due.due("the hand of 1", x.total(3), 3 * (kind - 1));
            x.setHand(1, kind, 3);
            Due.due("the hand of 1", x.total(3), 3 * kind);
        }
        Due.due("the men on the board", x.total(1), 12);
    }

    /** "12 for the states in the history, 13 for the length of the text": 0 to the most. */
    private static void promise20HistoryAndText() {
        FiveShogi x = new FiveShogi();
        for (int i = 0; i <= 61; i++) {
            Due.due("the length", x.total(13), Math.min(60, i));
            Due.due("the states", x.total(12), Math.min(4, i));
            x.type(';');
            x.put(12, 1 + i % 2);
        }
    }

    /** "side: 0 or 1"; "UNKNOWN". */
    private static void promise21Unknown() {
        FiveShogi x = new FiveShogi();
        for (int far : FAR) {
            Due.due("worth(" + far + ")", x.worth(far), UNKNOWN);
        }
        Due.due("worth(-1)", x.worth(-1), UNKNOWN);
        Due.due("worth(2)", x.worth(2), UNKNOWN);
        Due.due("worth(0)", x.worth(0), 0);
        Due.due("worth(1)", x.worth(1), 0);
    }

    /** "Returns the worth for a side": less than 0, 0 and more, the one side's that of the other with the other sign. */
    private static void promise21BothSides() {
        FiveShogi x = new FiveShogi();
        x.clearAll();
        int worth = 0;
        int[] worths = {0, 6, 5, 8, 10, 1, 6, 11, 13, 4};
        for (int square = 0; square < 25; square++) {
            int man = 7 * square % 20;
            boolean isSecondKing = man % 10 == 0 && square > 19;
            int answer = x.put(square, man);
            worth += answer < 0 ? 0 : man < 10 ? worths[man] : -worths[man - 10];
            Due.due("a second king", answer < 0 ? 1 : 0, isSecondKing ? 1 : 0);
            Due.due("worth(0)", x.worth(0), worth);
            Due.due("worth(1)", x.worth(1), -worth);
        }
    }

    /** "Returns the worth": also of a hand with ninety rooks and more, where its number is an error's elsewhere. */
    private static void promise21AsLowAsTheErrors() {
        FiveShogi x = new FiveShogi();
        x.clearAll();
        x.put(12, 4);
        x.put(20, 5);
        for (int taken = 1; taken <= 95; taken++) {
            int from = taken % 2 == 1 ? 12 : 13;
            x.put(25 - from, 18);
            Due.due("move()", x.move(from, 25 - from, false), 18);
            x.setSide(0);
            if (taken >= 90) {
                Due.due("hand(0, 4)", x.hand(0, 4), taken);
                Due.due("worth(0)", x.worth(0), 11 + 11 * taken);
                Due.due("worth(1)", x.worth(1), -11 - 11 * taken);
            }
        }
    }

    /** None of the six is described as a change. */
    private static void askingChangesNothing() {
        FiveShogi x = new FiveShogi();
        x.make(2409);
        String before = Seen.of(x);
        for (int square = -1; square <= 25; square++) {
            x.man(square);
            x.attacked(square);
            x.attackers(0, square);
            x.attackers(1, square);
        }
        for (int what = -1; what <= 14; what++) {
            x.total(what);
        }
        for (int kind = 0; kind <= 6; kind++) {
            x.hand(0, kind);
            x.hand(1, kind);
        }
        x.worth(0);
        x.worth(1);
        Seen.same("asking", before, x);
    }
}
