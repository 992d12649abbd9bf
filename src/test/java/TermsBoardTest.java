/** "What it is" and, of "Terms", BOARD, MEN and HOW MEN MOVE: the boundary cases of each sentence. */
public final class TermsBoardTest {
    private static final int UNKNOWN = -1001;
    private static final int NONE = -1005;
    private static final int CALLS = 512;

    public static void main(String[] args) {
        callsUpToThe512thPlays();
        callsUpToThe512thHands();
        callsUpToThe512thHistory();
        rowsAndColumnsNumberTheSquares();
        thereAreTwoSides();
        forwardAndTheLastRow();
        theKindsOfMen();
        theMenAtFirst();
        everyManOnEverySquareAlone();
        everyManOnEverySquareOfAFullBoard();
        slidersStopAtTheFirstMan();
        onlySlidersGoOn();
        attacksWhateverIsThere();
        Due.end();
    }

    /** "An object is used for at most 512 calls": the last of them, behind 508 plays. */
    private static void callsUpToThe512thPlays() {
        FiveShogi x = new FiveShogi();
        x.clearAll();
        x.put(24, 0);
        x.put(0, 10);
        int[] round = {2423, 1, 2324, 100};
        for (int call = 4; call < CALLS; call++) {
            int play = round[call % 4];
            Due.due("call " + call + ", make(" + play + ")", x.make(play), 0);
        }
        Due.due("plays, by the 512th call", x.total(8), 508);
    }

    /** "An object is used for at most 512 calls": a hand that grows as long as the calls last. */
    private static void callsUpToThe512thHands() {
        FiveShogi x = new FiveShogi();
        x.clearAll();
        x.put(12, 4);
        int from = 12;
        for (int round = 1; round <= 168; round++) {
            int to = 19 - from;
            Due.due("put()", x.put(to, 18), 2);
            Due.due("move()", x.move(from, to, false), 18);
            x.setSide(0);
            from = to;
        }
        Due.due("rooks in the hand", x.hand(0, 4), 168);
        Due.due("men in the hand", x.total(2), 168);
        Due.due("men taken", x.total(9), 168);
        Due.due("worth", x.worth(0), 10 + 168 * 11);
        Due.due("worth for the other side, below the errors", x.worth(1), -10 - 168 * 11);
        Due.due("the 512th call", x.clearAll(), 169);
    }

    /** "An object is used for at most 512 calls": the history behind 503 changes. */
    private static void callsUpToThe512thHistory() {
        FiveShogi x = new FiveShogi();
        for (int call = 1; call <= 503; call++) {
            Due.due("put()", x.put(12, 1 + call % 9), 13);
        }
        for (int left = 3; left >= 0; left--) {
            Due.due("undo()", x.undo(), left);
            Due.due("man(12)", x.man(12), 1 + (499 + left) % 9);
        }
        Due.due("the 512th call", x.undo(), NONE);
    }

    /** "5 rows and 5 columns, numbered from 0; ... has the number 5 * r + c". */
    private static void rowsAndColumnsNumberTheSquares() {
        for (int row = 0; row < 5; row++) {
            for (int column = 0; column < 5; column++) {
                FiveShogi x = new FiveShogi();
                x.clearAll();
                x.put(5 * row + column, 0);
                int next = column == 4 ? 3 : column + 1;
                Setup.type(x, "" + row + column + "-" + row + next);
                Due.due("a king goes from " + row + column, x.perform(), 1);
                Due.due("it has left", x.man(5 * row + column), NONE);
                Due.due("it is beside", x.man(5 * row + next), 0);
            }
        }
        FiveShogi x = new FiveShogi();
        Due.due("the least square", x.man(0), 14);
        Due.due("the greatest square", x.man(24), 4);
        Due.due("below the least", x.man(-1), UNKNOWN);
        Due.due("above the greatest", x.man(25), UNKNOWN);
    }

    /** "There are two sides, 0 and 1." */
    private static void thereAreTwoSides() {
        FiveShogi x = new FiveShogi();
        for (int side : new int[] {-1, 2}) {
            Due.due("setSide()", x.setSide(side), UNKNOWN);
            Due.due("setHand()", x.setHand(side, 1, 1), UNKNOWN);
            Due.due("hand()", x.hand(side, 1), UNKNOWN);
            Due.due("attackers()", x.attackers(side, 12), UNKNOWN);
            Due.due("worth()", x.worth(side), UNKNOWN);
        }
        for (int side = 0; side < 2; side++) {
            Due.due("setHand()", x.setHand(side, 1, 1), 0);
            Due.due("hand()", x.hand(side, 1), 1);
            Due.due("attackers()", x.attackers(side, 10 * (1 - side)), 1 - side);
            Due.due("worth()", x.worth(side), 7 - 7 * side);
        }
        Due.due("the side 1 to play", x.setSide(1) > 0 ? 1 : 0, 1);
        Due.due("the side 0 to play", x.setSide(0) > 0 ? 1 : 0, 1);
    }

    /** "For the side 0 forward means to rows with lesser numbers, and its last row is the row 0; ..." */
    private static void forwardAndTheLastRow() {
        for (int column = 0; column < 5; column++) {
            for (int row = 0; row < 5; row++) {
                FiveShogi x = new FiveShogi();
                x.clearAll();
                int square = 5 * row + column;
                x.put(square, 5);
                Due.due("forward of the side 0", x.attacked(square), row == 0 ? 0 : 1 << square - 5);
                Due.due("has to be promoted", x.moveReason(square, Math.max(0, square - 5), false),
                        row == 0 ? 2 : row == 1 ? 5 : 0);
                x.put(square, 15);
                x.setSide(1);
                Due.due("forward of the side 1", x.attacked(square), row == 4 ? 0 : 1 << square + 5);
                Due.due("has to be promoted", x.moveReason(square, Math.min(24, square + 5), false),
                        row == 4 ? 2 : row == 3 ? 5 : 0);
            }
        }
    }

    /** "The kinds of men are 0 king, ... 9 promoted pawn. A man is told as 10 times its side plus its kind." */
    private static void theKindsOfMen() {
        FiveShogi x = new FiveShogi();
        x.clearAll();
        for (int man = 0; man < 20; man++) {
            Due.due("put(24, " + man + ")", x.put(24, man), 1);
            Due.due("man(24)", x.man(24), man);
        }
        Due.due("below the least", x.put(24, -1), UNKNOWN);
        Due.due("above the greatest", x.put(24, 20), UNKNOWN);
        x.put(24, 9);
        Due.due("9 is of the side 0", x.attackers(0, 19), 1);
        x.put(24, 10);
        Due.due("10 is of the side 1", x.attackers(1, 19), 1);
        Due.due("10 is not of the side 0", x.attackers(0, 19), 0);
    }

    /** "At first the side 0 has, in the row 4 ...; the side 1 has, in the row 0 ... Both hands are empty." */
    private static void theMenAtFirst() {
        FiveShogi x = new FiveShogi();
        for (int column = 0; column < 5; column++) {
            Due.due("the row 4", x.man(20 + column), column);
            Due.due("the row 0", x.man(4 - column), 10 + column);
            Due.due("the row 1", x.man(5 + column), column == 4 ? 15 : NONE);
            Due.due("the row 2", x.man(10 + column), NONE);
            Due.due("the row 3", x.man(15 + column), column == 0 ? 5 : NONE);
        }
        Due.due("the hand of the side 0", x.total(2), 0);
        Due.due("the hand of the side 1", x.total(3), 0);
        Due.due("the side to play", x.total(0), 0);
    }

    /** HOW MEN MOVE, each sentence, on each square: no man goes off a row's or a column's end. */
    private static void everyManOnEverySquareAlone() {
        for (int man = 0; man < 20; man++) {
            FiveShogi x = new FiveShogi();
            x.clearAll();
            for (int square = 0; square < 25; square++) {
                x.put(square, man);
                Due.due("attacked(" + square + ") by the man " + man, x.attacked(square),
                        squares(man, square, 0));
                x.takeOff(square);
            }
        }
    }

    /** "... both as long as the squares between are empty": here none is. */
    private static void everyManOnEverySquareOfAFullBoard() {
        int full = (1 << 25) - 1;
        for (int man = 1; man < 20; man++) {
            if (man == 10) {
                continue;
            }
            FiveShogi x = new FiveShogi();
            for (int square = 0; square < 25; square++) {
                x.put(square, square % 3 == 0 ? 5 : 15);
            }
            for (int square = 0; square < 25; square++) {
                x.put(square, man);
                Due.due("attacked(" + square + ") by the man " + man + " on a full board",
                        x.attacked(square), squares(man, square, full));
                x.put(square, 15);
            }
        }
    }

    /** "A bishop moves any number of squares slantwise, a rook ... straight ...": each length. */
    private static void slidersStopAtTheFirstMan() {
        int[][] lines = {{20, -5}, {20, 1}, {20, -4}, {4, 5}, {4, -1}, {4, 4}, {0, 6}, {24, -6}, {0, 1}, {24, -5}};
        for (int[] line : lines) {
            boolean slants = Math.abs(line[1]) == 4 || Math.abs(line[1]) == 6;
            for (int kind = slants ? 3 : 4; kind <= 8; kind += 4) {
                for (int far = 1; far <= 4; far++) {
                    slides(kind, line[0], line[1], far);
                    slides(10 + kind, line[0], line[1], far);
                }
            }
        }
    }

    private static void slides(int man, int square, int on, int far) {
        FiveShogi x = new FiveShogi();
        x.clearAll();
        x.put(square, man);
        x.put(square + far * on, far % 2 == 0 ? 1 : 11);
        for (int i = 1; i <= 4; i++) {
            int bit = x.attacked(square) >> square + i * on & 1;
            Due.due("the man " + man + " on " + square + " attacks " + (square + i * on)
                    + " with a man on " + (square + far * on), bit, i <= far ? 1 : 0);
        }
    }

    /** "A king makes a step ...": one square, not two; so do gold, silver, pawn and what becomes of them. */
    private static void onlySlidersGoOn() {
        int near = Setup.bits(6, 7, 8, 11, 12, 13, 16, 17, 18);
        for (int kind : new int[] {0, 1, 2, 5, 6, 9}) {
            FiveShogi x = new FiveShogi();
            x.clearAll();
            x.put(12, kind);
            Due.due("kind " + kind, x.attacked(12) & ~near, 0);
            x.put(12, 10 + kind);
            Due.due("kind " + kind + " of the side 1", x.attacked(12) & ~near, 0);
        }
        FiveShogi x = new FiveShogi();
        x.clearAll();
        x.put(12, 7);
        Due.due("a promoted bishop goes one square straight", x.attacked(12) & Setup.bits(2, 10, 14, 22), 0);
        x.put(12, 8);
        Due.due("a promoted rook goes one square slantwise", x.attacked(12) & Setup.bits(0, 4, 20, 24), 0);
    }

    /** "A man attacks the squares to which it could move so, whatever is there (also men of its own side)." */
    private static void attacksWhateverIsThere() {
        for (int man = 0; man < 20; man++) {
            for (int there = 0; there < 20; there++) {
                if (there % 10 == 0 && there == man) {
                    continue;
                }
                int forward = man / 10 == 0 ? -1 : 1;
                int to = man % 10 == 3 ? 12 + 6 * forward : 12 + 5 * forward;
                FiveShogi x = new FiveShogi();
                x.clearAll();
                x.put(12, man);
                x.put(to, there);
                Due.due("the man " + man + " attacks the man " + there, x.attacked(12) >> to & 1, 1);
                int back = x.attacked(to) >> to & 1;
                Due.due("no man attacks its own square", back, 0);
                Due.due("attackers()", x.attackers(man / 10, to), 1);
            }
        }
    }

    /** The squares that a man attacks, with men on some squares: each square is looked at for itself. */
    private static int squares(int man, int square, int taken) {
        int bits = 0;
        for (int to = 0; to < 25; to++) {
            int rows = (to / 5 - square / 5) * (man < 10 ? 1 : -1);
            int columns = to % 5 - square % 5;
            if (to != square && goes(man % 10, rows, columns, isFree(square, to, taken))) {
                bits |= 1 << to;
            }
        }
        return bits;
    }

    /** Whether a kind goes so many rows backward and columns to a side. */
    private static boolean goes(int kind, int rows, int columns, boolean isFree) {
        boolean isStep = Math.abs(rows) <= 1 && Math.abs(columns) <= 1;
        boolean isStraight = rows == 0 || columns == 0;
        boolean isSlant = Math.abs(rows) == Math.abs(columns);
        switch (kind) {
            case 0:
                return isStep;
            case 2:
                return isStep && (rows == -1 || isSlant);
            case 3:
                return isSlant && isFree;
            case 4:
                return isStraight && isFree;
            case 5:
                return rows == -1 && columns == 0;
            case 7:
                return isSlant && isFree || isStep && isStraight;
            case 8:
                return isStraight && isFree || isStep && isSlant;
            default:
                return isStep && !(isSlant && rows == 1);
        }
    }

    /** Whether the squares between two squares of a line are empty. */
    private static boolean isFree(int from, int to, int taken) {
        int rows = Integer.signum(to / 5 - from / 5);
        int columns = Integer.signum(to % 5 - from % 5);
        int far = Math.max(Math.abs(to / 5 - from / 5), Math.abs(to % 5 - from % 5));
        for (int i = 1; i < far; i++) {
            int row = from / 5 + i * rows;
            int column = from % 5 + i * columns;
            if ((taken >> 5 * row + column & 1) != 0) {
                return false;
            }
        }
        return true;
    }
}
