/** Promises 1 to 4, 22 and 23: the boundary cases of each sentence. */
public final class PlayEdgesTest {
    private static final int UNKNOWN = -1001;
    private static final int NOT_POSSIBLE = -1004;
    private static final int NONE = -1005;

    /** For each reason of moveReason(), from 1 on: a position, and a move of it with this reason alone. */
    private static final String[] MOVE_BOARDS = {
        ". . . . k . . . . . . . . . . . . . . . K . . . R",
        ". . . . k . . . . . . . . . . . . . . . K . . . R",
        ". . . . k . . . . . . . . . . . . . . . K . . . R",
        ". . . . k . . . . . . . . . . . . . . . K . . . R",
        ". . . . k P . . . . . . . . . . . . . . K . . . .",
        "r . . . k . . . . . G . . . . . . . . . K . . . ."
    };
    private static final int[] MOVE_FROM = {12, 24, 24, 24, 5, 10};
    private static final int[] MOVE_TO = {7, 18, 4, 19, 0, 11};

    /** For each reason of dropReason(), from 1 on: a position, and a drop of it with this reason alone. */
    private static final String[] DROP_BOARDS = {
        "k . . . . . . . . . . . . . . . . . . . . . . . K",
        "k . . . . . . . . . . . . . . . . . . . . . . . K",
        "k . . . . . . . . . . . . . . . . . . . . . . . K",
        "k . . . . . . P . . . . . . . . . . . . . . . . K",
        "k . . . r . . . . . . . . . . . . . . . . . . . K",
        "k . . . . . . . . . G R . . . . . . . . . . . . K"
    };
    private static final int[] DROP_KIND = {4, 5, 5, 5, 5, 5};
    private static final int[] DROP_TO = {12, 24, 2, 17, 12, 5};

    public static void main(String[] args) {
        promise1EachNewObjectIsAsAtFirst();
        promise2AnswersTheManThatIsTaken();
        promise2UnknownSquares();
        promise2NotPossibleForEachReason();
        promise2FromTheFirstSquareToTheLast();
        promise3AnswersHowManyAreLeft();
        promise3UnknownKindsAndSquares();
        promise3NotPossibleForEachReason();
        promise4AnswersCheckOrNot();
        promise4NotPossible();
        promise4IsAChangeLikeMoveAndDrop();
        promise22EachReason();
        promise22TheFirstThatHolds();
        promise22UnknownSquares();
        promise23EachReason();
        promise23TheFirstThatHolds();
        promise23UnknownKindsAndSquares();
        Due.end();
    }

    /** "Creates a board with the men as they are at first": while another one is in use, too. */
    private static void promise1EachNewObjectIsAsAtFirst() {
        FiveShogi x = new FiveShogi();
        String first = Seen.of(x);
        x.make(1510);
        x.setHand(0, 4, 4);
        x.type('g');
        x.keep();
        FiveShogi y = new FiveShogi();
        Seen.same("another object", first, y);
        Due.due("no history", y.undo(), NONE);
        Due.due("no snapshot", y.restore(), NONE);
        Due.due("no text", y.perform(), -2000);
        y.clearAll();
        Due.due("the first one is its own", x.total(1), 12);
        Seen.same("a third object", first, new FiveShogi());
    }

    /** "Returns the man that is taken, 99 if none is": each man, on the first square too. */
    private static void promise2AnswersTheManThatIsTaken() {
        for (int side = 0; side < 2; side++) {
            for (int kind = 1; kind <= 9; kind++) {
                int other = 10 * (1 - side) + kind;
                for (int to : new int[] {0, 4, 12, 20, 24}) {
                    FiveShogi x = new FiveShogi();
                    x.clearAll();
                    x.setSide(side);
                    int from = to < 20 ? to + 5 : to - 5;
                    x.put(from, 10 * side + 4);
                    x.put(to, other);
                    Due.due("move(), the man taken", x.move(from, to, false), other);
                    x.setSide(side);
                    Due.due("move(), none taken", x.move(to, from, false), 99);
                    Due.due("taken so far", x.total(9), 1);
                    Due.due("plays so far", x.total(8), 2);
                }
            }
        }
    }

    /** "from: a square", "to: a square"; "UNKNOWN": just outside, and far outside. */
    private static void promise2UnknownSquares() {
        FiveShogi x = new FiveShogi();
        String before = Seen.of(x);
        int[] far = {-1, 25, -5, 99, 100, 256, Integer.MIN_VALUE, Integer.MAX_VALUE};
        for (int square : far) {
            Due.due("from " + square, x.move(square, 10, false), UNKNOWN);
            Due.due("to " + square, x.move(15, square, false), UNKNOWN);
            Due.due("both " + square, x.move(square, square, true), UNKNOWN);
        }
        Seen.same("move()", before, x);
        Due.due("0 is a square", x.move(0, 5, false), NOT_POSSIBLE);
        Due.due("24 is a square", x.move(24, 19, false), 99);
    }

    /** "NOT_POSSIBLE if moveReason() is not 0", by each reason. */
    private static void promise2NotPossibleForEachReason() {
        for (int i = 0; i < 6; i++) {
            FiveShogi x = Setup.of(MOVE_BOARDS[i], 0, "");
            boolean promotes = i == 3;
            String before = Seen.of(x);
            Due.due("move() by the reason " + (i + 1), x.move(MOVE_FROM[i], MOVE_TO[i], promotes), NOT_POSSIBLE);
            Due.due("make() by the reason " + (i + 1),
                    x.make(100 * MOVE_FROM[i] + MOVE_TO[i] + (promotes ? 10000 : 0)), NOT_POSSIBLE);
            Seen.same("move()", before, x);
        }
    }

    /** "Moves a man": along a whole row, column or slant, between the corners. */
    private static void promise2FromTheFirstSquareToTheLast() {
        int[] corners = {0, 4, 20, 24};
        for (int from : corners) {
            for (int to : corners) {
                FiveShogi x = new FiveShogi();
                x.clearAll();
                boolean isSlant = from + to == 24;
                x.put(from, isSlant ? 7 : 8);
                Due.due("from " + from + " to " + to, x.move(from, to, false), from == to ? NOT_POSSIBLE : 99);
                Due.due("there", x.man(to), isSlant ? 7 : 8);
                Due.due("left", x.man(from), from == to ? 8 : NONE);
            }
        }
    }

    /** "Returns how many men of this kind are left in the hand": from 4 to 0, then none is there. */
    private static void promise3AnswersHowManyAreLeft() {
        for (int side = 0; side < 2; side++) {
            for (int kind = 1; kind <= 5; kind++) {
                FiveShogi x = new FiveShogi();
                x.clearAll();
                x.setHand(side, kind, 4);
                for (int left = 3; left >= 0; left--) {
                    x.setSide(side);
                    Due.due("drop()", x.drop(kind, 10 + left), left);
                    Due.due("the man", x.man(10 + left), 10 * side + kind);
                    Due.due("the side to play", x.total(0), 1 - side);
                }
                x.setSide(side);
                Due.due("none is left", x.drop(kind, 14), NOT_POSSIBLE);
                Due.due("dropped so far", x.total(11), 4);
                Due.due("plays so far", x.total(8), 4);
            }
        }
    }

    /** "kind: 1 to 5", "to: a square"; "UNKNOWN". */
    private static void promise3UnknownKindsAndSquares() {
        FiveShogi x = new FiveShogi();
        for (int kind = 1; kind <= 5; kind++) {
            x.setHand(0, kind, 4);
        }
        String before = Seen.of(x);
        for (int kind : new int[] {0, 6, -1, 9, 10, 11, Integer.MIN_VALUE, Integer.MAX_VALUE}) {
            Due.due("the kind " + kind, x.drop(kind, 12), UNKNOWN);
        }
        for (int square : new int[] {-1, 25, 100, Integer.MIN_VALUE, Integer.MAX_VALUE}) {
            Due.due("the square " + square, x.drop(1, square), UNKNOWN);
            Due.due("both", x.drop(6, square), UNKNOWN);
        }
        Seen.same("drop()", before, x);
        x.takeOff(0);
        x.takeOff(24);
        Due.due("the kind 1 onto the square 0", x.drop(1, 0), 3);
        x.setSide(0);
        Due.due("the kind 5 onto the square 24", x.drop(5, 24), 3);
    }

    /** "NOT_POSSIBLE if dropReason() is not 0", by each reason. */
    private static void promise3NotPossibleForEachReason() {
        for (int i = 0; i < 6; i++) {
            FiveShogi x = Setup.of(DROP_BOARDS[i], 0, "P");
            String before = Seen.of(x);
            Due.due("drop() by the reason " + (i + 1), x.drop(DROP_KIND[i], DROP_TO[i]), NOT_POSSIBLE);
            Due.due("make() by the reason " + (i + 1), x.make(20000 + 100 * DROP_KIND[i] + DROP_TO[i]), NOT_POSSIBLE);
            Due.due("drops() by the reason " + (i + 1), x.drops(DROP_KIND[i]) >> DROP_TO[i] & 1, 0);
            Seen.same("drop()", before, x);
        }
    }

    /** "Returns whether the other side is in check then (1, otherwise 0)". */
    private static void promise4AnswersCheckOrNot() {
        FiveShogi x = Setup.of("k . . . . . . . . . . . . . . . . . . . R G . . K", 0, "R");
        Due.due("check already, and still", x.make(2417), NOT_POSSIBLE);
        Due.due("check already, and still", x.make(2418), 1);
        x.undo();
        Due.due("a drop shuts its own line", x.make(20405), 1);
        x.undo();
        x.put(5, 1);
        Due.due("a gold between gives check", x.make(2418), 1);
        x.undo();
        x.put(5, 15);
        Due.due("another's man is between", x.make(2418), 0);
        x.undo();
        Due.due("it is taken: check", x.make(2005), 1);
        x.undo();
        x.put(5, 5);
        x.put(10, 2);
        Due.due("a pawn gives check, whatever is behind it", x.make(1006), 1);
        x.undo();
        x.takeOff(5);
        Due.due("a silver opens the line and gives check", x.make(1006), 1);
        x.undo();
        Due.due("a silver goes back, out of the line", x.make(1016), 1);
        x.undo();
        x.takeOff(0);
        Due.due("no king, no check", x.make(1016), 0);
        x = Setup.of("k . . . . . . . . . . . . . . r . . . . . . . . K", 1, "g");
        Due.due("the side 1: no check", x.make(1516), 0);
        x.undo();
        Due.due("the side 1: check", x.make(1519), 1);
        x.undo();
        Due.due("the side 1: check by a drop", x.make(20119), 1);
        x.undo();
        Due.due("the side 1: check by a promotion", x.make(11520), 1);
        x.undo();
        Due.due("the side 1: a king alone gives none", x.make(1), 0);
    }

    /** "NOT_POSSIBLE if it is not one of the plays that are allowed": all numbers near plays. */
    private static void promise4NotPossible() {
        FiveShogi x = Setup.of("k . . . . P S B R . . . . . . . . . . . . . . . K", 0, "GP");
        java.util.Set<Integer> allowed = new java.util.TreeSet<>();
        for (int rank = 0; rank < x.total(7); rank++) {
            allowed.add(x.playAt(rank));
        }
        FiveShogi y = null;
        int calls = 0;
        for (int play = -200; play < 32700; play++) {
            if (calls % 400 == 0) {
                y = Setup.of("k . . . . P S B R . . . . . . . . . . . . . . . K", 0, "GP");
            }
            calls += 2;
            int got = y.make(play);
            Due.due("make(" + play + ") is an error", got == NOT_POSSIBLE ? 1 : 0, allowed.contains(play) ? 0 : 1);
            if (got != NOT_POSSIBLE) {
                y.undo();
            }
        }
        for (int far : new int[] {Integer.MIN_VALUE, Integer.MIN_VALUE + 506, Integer.MAX_VALUE, -506, 1000506}) {
            Due.due("make(" + far + ")", x.make(far), NOT_POSSIBLE);
        }
    }

    /** "Makes a play that is told as a number. This is a change." */
    private static void promise4IsAChangeLikeMoveAndDrop() {
        String board = ". . . . k P S . . . . . . . . . . . . . . . . R .";
        int[] plays = {601, 10601, 2303, 12303, 10500, 20112, 20524};
        for (int play : plays) {
            FiveShogi x = Setup.of(board, 0, "GP");
            FiveShogi y = Setup.of(board, 0, "GP");
            int check = x.make(play);
            if (play >= 20000) {
                y.drop((play - 20000) / 100, play % 100);
            } else {
                y.move(play % 10000 / 100, play % 100, play >= 10000);
            }
            Seen.same("make() and the same play by move() or drop()", Seen.of(y), x);
            Due.due("check", check, x.total(4));
            Due.due("side", x.total(0), 1);
        }
    }

    /** "1 no man of the side to play ...; ... 6 its own king would be attacked": each one alone, then 0. */
    private static void promise22EachReason() {
        for (int i = 0; i < 6; i++) {
            FiveShogi x = Setup.of(MOVE_BOARDS[i], 0, "");
            Due.due("the reason " + (i + 1), x.moveReason(MOVE_FROM[i], MOVE_TO[i], i == 3), i + 1);
        }
        FiveShogi x = Setup.of(MOVE_BOARDS[0], 0, "");
        x.put(12, 5);
        Due.due("1 mended", x.moveReason(12, 7, false), 0);
        Due.due("2 mended", x.moveReason(24, 19, false), 0);
        x.put(9, 11);
        Due.due("3 mended", x.moveReason(24, 9, false), 0);
        Due.due("4 mended", x.moveReason(24, 19, false), 0);
        x = Setup.of(MOVE_BOARDS[4], 0, "");
        Due.due("5 mended", x.moveReason(5, 0, true), 0);
        x = Setup.of(MOVE_BOARDS[5], 0, "");
        Due.due("6 mended", x.moveReason(10, 5, false), 0);
        Due.due("1 the other side's man", x.moveReason(0, 5, false), 1);
        x.setSide(1);
        Due.due("1 the side 0's man", x.moveReason(10, 5, false), 1);
        Due.due("0 the side 1's man", x.moveReason(0, 5, false), 0);
        Due.due("3 the king of the side 0 is behind a gold", x.moveReason(0, 20, false), 2);
        x.takeOff(10);
        Due.due("3 the king of the side 0", x.moveReason(0, 20, false), 3);
    }

    /** "the first that holds": pairs of reasons that hold at once. */
    private static void promise22TheFirstThatHolds() {
        FiveShogi x = Setup.of(
                "r . . . k "
                + "P G . . . "
                + ". . . . . "
                + "P . . . . "
                + "K . . S r", 0, "");
        x.takeOff(5);
        x.put(10, 5);
        Due.due("1 before 2", x.moveReason(24, 16, false), 1);
        Due.due("1 before 3", x.moveReason(12, 20, false), 1);
        Due.due("1 before 4", x.moveReason(4, 9, true), 1);
        Due.due("1 before 5", x.moveReason(7, 2, false), 1);
        Due.due("2 before 3", x.moveReason(20, 10, false), 2);
        Due.due("2 before 4", x.moveReason(6, 16, true), 2);
        Due.due("2 before 6", x.moveReason(23, 22, false), 2);
        Due.due("3 before 4", x.moveReason(20, 15, true), 3);
        Due.due("4 before 6", x.moveReason(23, 17, true), 4);
        Due.due("6", x.moveReason(23, 17, false), 6);
        x = Setup.of(". . k . r . . P . K . . . . . . . . . . . . . . .", 0, "");
        Due.due("3 before 5", x.moveReason(7, 2, false), 3);
        x.put(2, 11);
        Due.due("5 before 6", x.moveReason(7, 2, false), 5);
        Due.due("6 when it is promoted", x.moveReason(7, 2, true), 6);
        x.takeOff(9);
        Due.due("0 without a king", x.moveReason(7, 2, true), 0);
        Due.due("5 without a king", x.moveReason(7, 2, false), 5);
    }

    /** "UNKNOWN": for each of the two squares, whatever else holds. */
    private static void promise22UnknownSquares() {
        FiveShogi x = new FiveShogi();
        for (int square : new int[] {-1, 25, -25, 32, 57, Integer.MIN_VALUE, Integer.MAX_VALUE}) {
            for (int other : new int[] {0, 12, 24}) {
                Due.due("from " + square, x.moveReason(square, other, true), UNKNOWN);
                Due.due("to " + square, x.moveReason(other, square, false), UNKNOWN);
            }
        }
        for (int square = 0; square < 25; square++) {
            Due.due("a square", x.moveReason(square, square, false), x.man(square) < 0 || x.man(square) > 9 ? 1 : 2);
        }
    }

    /** "1 the side to play has no such man in its hand; ... 6 the other side would be mated by a pawn". */
    private static void promise23EachReason() {
        for (int i = 0; i < 6; i++) {
            FiveShogi x = Setup.of(DROP_BOARDS[i], 0, "P");
            Due.due("the reason " + (i + 1), x.dropReason(DROP_KIND[i], DROP_TO[i]), i + 1);
        }
        FiveShogi x = Setup.of(DROP_BOARDS[0], 0, "Pr");
        Due.due("1 the other side has one", x.dropReason(4, 12), 1);
        x.setHand(0, 4, 1);
        Due.due("1 mended", x.dropReason(4, 12), 0);
        Due.due("2 mended", x.dropReason(5, 23), 0);
        Due.due("3 mended: a rook may", x.dropReason(4, 2), 0);
        x.put(7, 9);
        Due.due("4 mended: a promoted pawn", x.dropReason(5, 17), 0);
        x.put(4, 14);
        Due.due("5 a check", x.dropReason(5, 12), 5);
        Due.due("5 mended: between", x.dropReason(5, 14), 0);
        x = Setup.of(DROP_BOARDS[5], 0, "PS");
        x.put(2, 14);
        Due.due("6 a rook that does not take it", x.dropReason(5, 5), 6);
        x.put(8, 14);
        Due.due("6 mended: a rook takes it", x.dropReason(5, 5), 0);
        x.takeOff(8);
        Due.due("6 mended: a silver may", x.dropReason(2, 6), 0);
    }

    /** "the first that holds": pairs of reasons that hold at once. */
    private static void promise23TheFirstThatHolds() {
        FiveShogi x = Setup.of(
                "k . . . . "
                + ". P . . . "
                + "G R . . . "
                + ". . . . . "
                + "r . . . K", 0, "Gs");
        Due.due("1 before 2", x.dropReason(5, 6), 1);
        Due.due("1 before 3", x.dropReason(5, 3), 1);
        Due.due("1 before 4", x.dropReason(5, 21), 1);
        Due.due("1 before 5", x.dropReason(2, 12), 1);
        x.setHand(0, 5, 1);
        Due.due("2 before 3", x.dropReason(5, 0), 2);
        Due.due("2 before 4", x.dropReason(5, 6), 2);
        Due.due("2 before 5", x.dropReason(1, 0), 2);
        Due.due("3 before 4", x.dropReason(5, 1), 3);
        Due.due("3 before 5", x.dropReason(5, 3), 3);
        Due.due("4 before 5", x.dropReason(5, 16), 4);
        Due.due("5 before 6", x.dropReason(5, 5), 5);
        x.takeOff(20);
        Due.due("6", x.dropReason(5, 5), 6);
        x.put(20, 5);
        Due.due("4 before 6", x.dropReason(5, 5), 4);
        x.setHand(0, 5, 0);
        Due.due("1 before 6", x.dropReason(5, 5), 1);
    }

    /** "kind: 1 to 5", "to: a square"; "UNKNOWN", whatever else holds. */
    private static void promise23UnknownKindsAndSquares() {
        FiveShogi x = new FiveShogi();
        for (int kind : new int[] {0, 6, 7, 8, 9, 10, 15, -1, -5, Integer.MIN_VALUE, Integer.MAX_VALUE}) {
            Due.due("the kind " + kind, x.dropReason(kind, 12), UNKNOWN);
            Due.due("the kind " + kind + " onto a man", x.dropReason(kind, 20), UNKNOWN);
        }
        for (int square : new int[] {-1, 25, 32, Integer.MIN_VALUE, Integer.MAX_VALUE}) {
            Due.due("the square " + square, x.dropReason(5, square), UNKNOWN);
        }
        for (int kind = 1; kind <= 5; kind++) {
            Due.due("the first square", x.dropReason(kind, 0), 1);
            Due.due("the last square", x.dropReason(kind, 24), 1);
            x.setHand(0, kind, 1);
            Due.due("the first square", x.dropReason(kind, 0), 2);
            Due.due("the last square", x.dropReason(kind, 24), 2);
            Due.due("the middle", x.dropReason(kind, 12), 0);
        }
    }
}
