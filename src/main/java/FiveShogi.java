/**
 * Shogi on five rows of five squares.
 *
 * <p>Every answer is a number; errors are the constants below. All arrays are made with the object
 * and used again, so that no call makes an object.
 */
public final class FiveShogi {
    /** There is no such square, side or kind. */
    public static final int UNKNOWN = -1001;
    /** Another argument is out of its range. */
    public static final int OUT_OF_RANGE = -1002;
    /** There is no more room. */
    public static final int FULL = -1003;
    /** This is not possible in the present state. */
    public static final int NOT_POSSIBLE = -1004;
    /** There is no such thing; this is not an error. */
    public static final int NONE = -1005;

    private static final int WIDTH = 5;
    private static final int SQUARES = WIDTH * WIDTH;
    private static final int NO_SQUARE = -1;
    /** Sets of squares are bits, bit s for the square s. */
    private static final int EVERY_SQUARE = 0b11111_11111_11111_11111_11111;
    private static final int TOP_ROW = 0b00000_00000_00000_00000_11111;
    private static final int BOTTOM_ROW = 0b11111_00000_00000_00000_00000;
    private static final int LEFT_COLUMN = 0b00001_00001_00001_00001_00001;
    private static final int SIDES = 2;

    private static final int KING = 0;
    private static final int GOLD = 1;
    private static final int SILVER = 2;
    private static final int PAWN = 5;
    private static final int KINDS = 10;
    /** From a kind to the same kind promoted. */
    private static final int PROMOTION = 4;

    /** What stands on an empty square; also what move() answers when no man is taken. */
    private static final int NO_MAN = 99;

    private static final int PROMOTED_MOVE = 10000;
    private static final int DROP = 20000;

    private static final int MOST_IN_HAND = 4;
    private static final int FAULTY_TEXT = -2000;

    /**
     * The eight ways in which a man can go: 0 to 2 to lesser rows, 3 and 4 to the sides, 5 to 7 to
     * greater rows. The way opposite to w is 7 - w.
     */
    private static final int WAYS = 8;
    private static final int[] ROWS_ON = {-1, -1, -1, 0, 0, 1, 1, 1};
    private static final int[] COLUMNS_ON = {-1, 0, 1, -1, 1, -1, 0, 1};

    /** Sets of ways, as bits (bit w for the way w). */
    private static final int ALL = 0b11111111;
    private static final int STRAIGHT = 0b01011010;
    private static final int SLANTWISE = 0b10100101;
    private static final int GOLD_0 = 0b01011111;
    private static final int GOLD_1 = 0b11111010;
    private static final int SILVER_0 = 0b10100111;
    private static final int SILVER_1 = 0b11100101;
    private static final int PAWN_0 = 0b00000010;
    private static final int PAWN_1 = 0b01000000;

    /** By man: the ways in which it makes a step. */
    private static final int[] STEPS = {
        ALL, GOLD_0, SILVER_0, SLANTWISE, STRAIGHT, PAWN_0, GOLD_0, ALL, ALL, GOLD_0,
        ALL, GOLD_1, SILVER_1, SLANTWISE, STRAIGHT, PAWN_1, GOLD_1, ALL, ALL, GOLD_1
    };
    /** By man: the ways in which it goes on as long as the squares are empty. */
    private static final int[] SLIDES = {
        0, 0, 0, SLANTWISE, STRAIGHT, 0, 0, SLANTWISE, STRAIGHT, 0,
        0, 0, 0, SLANTWISE, STRAIGHT, 0, 0, SLANTWISE, STRAIGHT, 0
    };

    /** By kind: the worth of a man on the board. */
    private static final int[] WORTHS = {0, 6, 5, 8, 10, 1, 6, 11, 13, 4};

    private static final int[] FIRST_MEN = {
        14, 13, 12, 11, 10,
        99, 99, 99, 99, 15,
        99, 99, 99, 99, 99,
        5, 99, 99, 99, 99,
        0, 1, 2, 3, 4
    };

    private final Position position = new Position();
    private final Rules rules = new Rules(position);
    private final History history = new History();
    private final PlayText text = new PlayText();
    /** The state before a change, for the history. */
    private final int[] before = new int[Position.SIZE];
    private final int[] snapshot = new int[Position.SIZE];
    private boolean hasSnapshot = false;

    /** Creates a board with the men as they are at first. */
    public FiveShogi() {
    }

    // ---- plays

    /** Moves a man; answers the man that is taken, 99 if none is. */
    public int move(int from, int to, boolean promotes) {
        if (!isSquare(from) || !isSquare(to)) {
            return UNKNOWN;
        }
        if (rules.whyNoMove(from, to, promotes) != 0) {
            return NOT_POSSIBLE;
        }
        recordChange();
        return position.play(moveNumber(from, to, promotes));
    }

    /** Drops a man from the hand; answers how many of its kind are left there. */
    public int drop(int kind, int to) {
        if (!isHandKind(kind) || !isSquare(to)) {
            return UNKNOWN;
        }
        if (rules.whyNoDrop(kind, to) != 0) {
            return NOT_POSSIBLE;
        }
        int side = position.sideToPlay();
        recordChange();
        position.play(dropNumber(kind, to));
        return position.inHand(side, kind);
    }

    /** Makes a play that is told as a number; answers whether the other side is in check then. */
    public int make(int play) {
        if (!rules.allows(play)) {
            return NOT_POSSIBLE;
        }
        recordChange();
        position.play(play);
        return asNumber(rules.isInCheck());
    }

    // ---- positions

    /** Puts a man onto the board; answers how many men there are on the board then. */
    public int put(int square, int man) {
        if (!isSquare(square) || !isMan(man)) {
            return UNKNOWN;
        }
        int king = position.kingOf(sideOf(man));
        if (kindOf(man) == KING && king != NO_SQUARE && king != square) {
            return NOT_POSSIBLE;
        }
        if (position.manOn(square) == man) {
            return NONE;
        }
        recordChange();
        position.place(square, man);
        return position.menOnBoard();
    }

    /** Takes a man off the board; answers the man. */
    public int takeOff(int square) {
        if (!isSquare(square)) {
            return UNKNOWN;
        }
        int man = position.manOn(square);
        if (man == NO_MAN) {
            return NONE;
        }
        recordChange();
        position.place(square, NO_MAN);
        return man;
    }

    /** Sets how many men of a kind a side has in its hand; answers how many it had. */
    public int setHand(int side, int kind, int many) {
        if (!isSide(side) || !isHandKind(kind)) {
            return UNKNOWN;
        }
        if (many < 0 || many > MOST_IN_HAND) {
            return OUT_OF_RANGE;
        }
        int had = position.inHand(side, kind);
        if (had == many) {
            return NONE;
        }
        recordChange();
        position.setInHand(side, kind, many);
        return had;
    }

    /** Takes all men off the board and out of both hands; answers how many there were. */
    public int clearAll() {
        int many = position.menOnBoard() + position.menInHand(0) + position.menInHand(1);
        if (many == 0) {
            return NONE;
        }
        recordChange();
        position.removeAllMen();
        return many;
    }

    /** Sets which side is to play; answers how many plays are allowed then. */
    public int setSide(int side) {
        if (!isSide(side)) {
            return UNKNOWN;
        }
        if (position.sideToPlay() == side) {
            return NONE;
        }
        recordChange();
        position.setSideToPlay(side);
        return rules.findPlays();
    }

    // ---- texts

    /** Appends a character to the text; answers the length of the text then. */
    public int type(char character) {
        if (text.isFull()) {
            return FULL;
        }
        text.append(character);
        return text.size();
    }

    /** Empties the text; answers the length that it had. */
    public int clearText() {
        int had = text.size();
        text.empty();
        return had;
    }

    /** Makes all plays of the text, or none; answers how many plays the text has. */
    public int perform() {
        int fault = text.readPlays();
        if (fault != PlayText.NO_FAULT) {
            return FAULTY_TEXT - fault;
        }
        position.copyTo(before, 0);
        for (int i = 0; i < text.playsRead(); i++) {
            int play = text.playRead(i);
            if (!rules.allows(play)) {
                position.copyFrom(before, 0);
                return NOT_POSSIBLE;
            }
            position.play(play);
        }
        history.push(before);
        return text.playsRead();
    }

    // ---- history

    /** Restores the latest state of the history; answers how many states are left. */
    public int undo() {
        if (history.size() == 0) {
            return NONE;
        }
        history.popInto(position);
        return history.size();
    }

    /** Takes a snapshot of the state; answers how many men there are on the board. */
    public int keep() {
        position.copyTo(snapshot, 0);
        hasSnapshot = true;
        return position.menOnBoard();
    }

    /** Restores the state of the snapshot; answers how many men there are on the board then. */
    public int restore() {
        if (!hasSnapshot) {
            return NONE;
        }
        recordChange();
        position.copyFrom(snapshot, 0);
        return position.menOnBoard();
    }

    // ---- what there is

    /** Answers the man on a square. */
    public int man(int square) {
        if (!isSquare(square)) {
            return UNKNOWN;
        }
        int man = position.manOn(square);
        return man == NO_MAN ? NONE : man;
    }

    /** Answers how many men of a kind a side has in its hand. */
    public int hand(int side, int kind) {
        if (!isSide(side) || !isHandKind(kind)) {
            return UNKNOWN;
        }
        return position.inHand(side, kind);
    }

    /** Answers how many men of a side attack a square. */
    public int attackers(int side, int square) {
        if (!isSide(side) || !isSquare(square)) {
            return UNKNOWN;
        }
        return position.countAttackers(side, square);
    }

    /** Answers the squares that the man on a square attacks, as bits. */
    public int attacked(int square) {
        if (!isSquare(square)) {
            return UNKNOWN;
        }
        return position.manOn(square) == NO_MAN ? NONE : position.attackedFrom(square);
    }

    /** Answers a number of the whole. */
    public int total(int what) {
        switch (what) {
            case 0:
                return position.sideToPlay();
            case 1:
                return position.menOnBoard();
            case 2:
                return position.menInHand(0);
            case 3:
                return position.menInHand(1);
            case 4:
                return asNumber(rules.isInCheck());
            case 5:
                return asNumber(rules.isMated());
            case 6:
                return asNumber(rules.findPlays() == 0);
            case 7:
                return rules.findPlays();
            case 8:
                return position.playsMade();
            case 9:
                return position.menTaken();
            case 10:
                return position.menPromoted();
            case 11:
                return position.menDropped();
            case 12:
                return history.size();
            case 13:
                return text.size();
            default:
                return OUT_OF_RANGE;
        }
    }

    /** Answers the worth for a side. */
    public int worth(int side) {
        if (!isSide(side)) {
            return UNKNOWN;
        }
        return position.worthFor(side);
    }

    // ---- which plays there are

    /** Tells why a move is not allowed, 0 if it is. */
    public int moveReason(int from, int to, boolean promotes) {
        if (!isSquare(from) || !isSquare(to)) {
            return UNKNOWN;
        }
        return rules.whyNoMove(from, to, promotes);
    }

    /** Tells why a drop is not allowed, 0 if it is. */
    public int dropReason(int kind, int to) {
        if (!isHandKind(kind) || !isSquare(to)) {
            return UNKNOWN;
        }
        return rules.whyNoDrop(kind, to);
    }

    /** Answers the play that is allowed with so many lesser ones. */
    public int playAt(int rank) {
        if (rank < 0) {
            return OUT_OF_RANGE;
        }
        rules.findPlays();
        return rank < rules.listPlays() ? rules.listed(rank) : NONE;
    }

    /** Answers the squares on which a man can be dropped, as bits. */
    public int drops(int kind) {
        if (!isHandKind(kind)) {
            return UNKNOWN;
        }
        rules.findPlays();
        return rules.dropSquares(kind);
    }

    /** Answers the least play by which the other side is mated. */
    public int mate() {
        rules.findPlays();
        int many = rules.listPlays();
        for (int rank = 0; rank < many; rank++) {
            int play = rules.listed(rank);
            int taken = position.apply(play);
            boolean mates = rules.isMated();
            position.takeBack(play, taken);
            if (mates) {
                return play;
            }
        }
        return NONE;
    }

    /** Answers the play that leaves the other side the fewest plays. */
    public int tightest() {
        rules.findPlays();
        int many = rules.listPlays();
        int mover = position.sideToPlay();
        int best = NONE;
        int fewest = 0;
        int greatest = 0;
        for (int rank = 0; rank < many; rank++) {
            int play = rules.listed(rank);
            int taken = position.apply(play);
            int replies = rules.findPlays();
            int worth = position.worthFor(mover);
            position.takeBack(play, taken);
            if (best == NONE || replies < fewest || (replies == fewest && worth > greatest)) {
                best = play;
                fewest = replies;
                greatest = worth;
            }
        }
        return best;
    }

    private void recordChange() {
        position.copyTo(before, 0);
        history.push(before);
    }

    private static int asNumber(boolean holds) {
        return holds ? 1 : 0;
    }

    private static boolean isSquare(int square) {
        return square >= 0 && square < SQUARES;
    }

    private static boolean isSide(int side) {
        return side >= 0 && side < SIDES;
    }

    private static boolean isMan(int man) {
        return man >= 0 && man < SIDES * KINDS;
    }

    /** Whether men of the kind can be in a hand. */
    private static boolean isHandKind(int kind) {
        return kind >= GOLD && kind <= PAWN;
    }

    /** The side of a man; no side for NO_MAN. */
    private static int sideOf(int man) {
        return man / KINDS;
    }

    private static int kindOf(int man) {
        return man % KINDS;
    }

    private static int manOf(int side, int kind) {
        return side * KINDS + kind;
    }

    private static int bit(int square) {
        return 1 << square;
    }

    private static boolean has(int squares, int square) {
        return (squares >> square & 1) != 0;
    }

    /** The squares of the last row of a side, as bits. */
    private static int lastRow(int side) {
        return side == 0 ? TOP_ROW : BOTTOM_ROW;
    }

    private static int moveNumber(int from, int to, boolean promotes) {
        return 100 * from + to + (promotes ? PROMOTED_MOVE : 0);
    }

    private static int dropNumber(int kind, int to) {
        return DROP + 100 * kind + to;
    }

    /** The square beside a square, or NO_SQUARE. */
    private static int squareBeside(int square, int way) {
        if (!isSquare(square) || way < 0 || way >= ROWS_ON.length || way >= COLUMNS_ON.length) {
            return NO_SQUARE;
        }
        int row = square / WIDTH + ROWS_ON[way];
        int column = square % WIDTH + COLUMNS_ON[way];
        boolean isOnBoard = row >= 0 && row < WIDTH && column >= 0 && column < WIDTH;
        return isOnBoard ? row * WIDTH + column : NO_SQUARE;
    }

    /** The state: men, hands, the side to play and what has been counted. */
    private static final class Position {
        /** The places of the state in its array; the squares come first. */
        private static final int HANDS = SQUARES;
        private static final int HAND_SIZE = PAWN + 1;
        private static final int KINGS = HANDS + SIDES * HAND_SIZE;
        private static final int TO_PLAY = KINGS + SIDES;
        private static final int PLAYS_MADE = TO_PLAY + 1;
        private static final int MEN_TAKEN = TO_PLAY + 2;
        private static final int MEN_PROMOTED = TO_PLAY + 3;
        private static final int MEN_DROPPED = TO_PLAY + 4;
        static final int SIZE = TO_PLAY + 5;

        private final int[] state = new int[SIZE];
        /** By 8 times a square plus a way: the square beside it, or NO_SQUARE. */
        private final int[] beside = new int[SQUARES * WAYS];

        Position() {
            for (int at = 0; at < beside.length; at++) {
                beside[at] = squareBeside(at / WAYS, at % WAYS);
            }
            removeAllMen();
            for (int square = 0; square < FIRST_MEN.length; square++) {
                place(square, FIRST_MEN[square]);
            }
        }

        void copyTo(int[] rows, int at) {
            if (rows != null && at >= 0 && at <= rows.length - SIZE) {
                System.arraycopy(state, 0, rows, at, SIZE);
            }
        }

        void copyFrom(int[] rows, int at) {
            if (rows != null && at >= 0 && at <= rows.length - SIZE) {
                System.arraycopy(rows, at, state, 0, SIZE);
            }
        }

        int sideToPlay() {
            return state[TO_PLAY];
        }

        void setSideToPlay(int side) {
            state[TO_PLAY] = side;
        }

        int playsMade() {
            return state[PLAYS_MADE];
        }

        int menTaken() {
            return state[MEN_TAKEN];
        }

        int menPromoted() {
            return state[MEN_PROMOTED];
        }

        int menDropped() {
            return state[MEN_DROPPED];
        }

        int manOn(int square) {
            return square >= 0 && square < SQUARES ? state[square] : NO_MAN;
        }

        /** The square of the king of a side, or NO_SQUARE. */
        int kingOf(int side) {
            return isSide(side) ? state[KINGS + side] : NO_SQUARE;
        }

        /** Puts a man, or NO_MAN, onto a square; keeps the squares of the kings right. */
        void place(int square, int man) {
            if (!isSquare(square)) {
                return;
            }
            int old = state[square];
            if (isMan(old) && kindOf(old) == KING) {
                state[KINGS + sideOf(old)] = NO_SQUARE;
            }
            state[square] = man;
            if (isMan(man) && kindOf(man) == KING) {
                state[KINGS + sideOf(man)] = square;
            }
        }

        void removeAllMen() {
            for (int square = 0; square < SQUARES; square++) {
                state[square] = NO_MAN;
            }
            for (int at = HANDS; at < KINGS; at++) {
                state[at] = 0;
            }
            for (int side = 0; side < SIDES; side++) {
                state[KINGS + side] = NO_SQUARE;
            }
        }

        int inHand(int side, int kind) {
            return isSide(side) && isHandKind(kind) ? state[HANDS + side * HAND_SIZE + kind] : 0;
        }

        void setInHand(int side, int kind, int many) {
            if (isSide(side) && isHandKind(kind)) {
                state[HANDS + side * HAND_SIZE + kind] = many;
            }
        }

        int menOnBoard() {
            int many = 0;
            for (int square = 0; square < SQUARES; square++) {
                if (state[square] != NO_MAN) {
                    many++;
                }
            }
            return many;
        }

        int menInHand(int side) {
            int many = 0;
            for (int kind = GOLD; kind <= PAWN; kind++) {
                many += inHand(side, kind);
            }
            return many;
        }

        int worthFor(int side) {
            int worth = 0;
            for (int square = 0; square < SQUARES; square++) {
                int man = state[square];
                int kind = kindOf(man);
                if (man != NO_MAN && kind >= 0 && kind < WORTHS.length) {
                    worth += sideOf(man) == side ? WORTHS[kind] : -WORTHS[kind];
                }
            }
            for (int kind = GOLD; kind <= PAWN && kind < WORTHS.length; kind++) {
                worth += (inHand(side, kind) - inHand(1 - side, kind)) * (WORTHS[kind] + 1);
            }
            return worth;
        }

        /** The squares that the man on a square attacks, as bits; none without a man. */
        int attackedFrom(int square) {
            int man = manOn(square);
            if (man < 0 || man >= STEPS.length || man >= SLIDES.length) {
                return 0;
            }
            int squares = 0;
            for (int way = 0; way < WAYS; way++) {
                int at = square;
                for (int far = 1; far < WIDTH; far++) {
                    int ways = far == 1 ? STEPS[man] : SLIDES[man];
                    int from = at * WAYS + way;
                    if ((ways >> way & 1) == 0 || from < 0 || from >= beside.length) {
                        break;
                    }
                    at = beside[from];
                    if (at < 0 || at >= SQUARES) {
                        break;
                    }
                    squares |= 1 << at;
                    if (state[at] != NO_MAN) {
                        break;
                    }
                }
            }
            return squares;
        }

        /**
         * How many men of a side attack a square, 0 for NO_SQUARE. It looks from the square in each
         * way for the first man, because only that one can attack the square along this way.
         */
        int countAttackers(int side, int square) {
            int many = 0;
            for (int way = 0; way < WAYS; way++) {
                int back = WAYS - 1 - way;
                int at = square;
                for (int far = 1; far < WIDTH; far++) {
                    int from = at * WAYS + way;
                    at = from >= 0 && from < beside.length ? beside[from] : NO_SQUARE;
                    if (at < 0 || at >= SQUARES) {
                        break;
                    }
                    int man = state[at];
                    if (man < 0 || man >= STEPS.length || man >= SLIDES.length) {
                        continue;
                    }
                    int ways = far == 1 ? STEPS[man] : SLIDES[man];
                    if (man / KINDS == side && (ways >> back & 1) != 0) {
                        many++;
                    }
                    break;
                }
            }
            return many;
        }

        /** Makes an allowed play and counts it; answers the man that is taken, or NO_MAN. */
        int play(int play) {
            int taken = apply(play);
            state[PLAYS_MADE]++;
            if (taken != NO_MAN) {
                state[MEN_TAKEN]++;
            }
            if (play >= DROP) {
                state[MEN_DROPPED]++;
            } else if (play >= PROMOTED_MOVE) {
                state[MEN_PROMOTED]++;
            }
            return taken;
        }

        /** Makes an allowed play without counting it; answers the man that is taken, or NO_MAN. */
        int apply(int play) {
            int side = sideToPlay();
            int to = play % 100;
            setSideToPlay(1 - side);
            if (play >= DROP) {
                int kind = (play - DROP) / 100;
                setInHand(side, kind, inHand(side, kind) - 1);
                place(to, manOf(side, kind));
                return NO_MAN;
            }
            int from = play % PROMOTED_MOVE / 100;
            int man = manOn(from);
            int taken = manOn(to);
            changeHandForTaken(side, taken, 1);
            place(from, NO_MAN);
            place(to, play >= PROMOTED_MOVE ? man + PROMOTION : man);
            return taken;
        }

        /** Takes back the play that apply() made last. */
        void takeBack(int play, int taken) {
            int side = 1 - sideToPlay();
            int to = play % 100;
            setSideToPlay(side);
            if (play >= DROP) {
                int kind = (play - DROP) / 100;
                place(to, NO_MAN);
                setInHand(side, kind, inHand(side, kind) + 1);
                return;
            }
            int man = manOn(to);
            place(to, taken);
            place(play % PROMOTED_MOVE / 100, play >= PROMOTED_MOVE ? man - PROMOTION : man);
            changeHandForTaken(side, taken, -1);
        }

        private void changeHandForTaken(int side, int taken, int more) {
            if (taken == NO_MAN) {
                return;
            }
            int kind = kindOf(taken);
            int plain = kind > PAWN ? kind - PROMOTION : kind;
            setInHand(side, plain, inHand(side, plain) + more);
        }
    }

    /** Which plays the side to play has. */
    private static final class Rules {
        /** A man has at most 8 moves that can be promoted too, or 12 that can't: 16 at most. */
        private static final int MOST_PLAYS = SQUARES * 16 + PAWN * SQUARES;

        private final Position position;
        /** What findPlays() finds, as bits: by the square from which a man goes, and by kind. */
        private final int[] plainMoves = new int[SQUARES];
        private final int[] promotedMoves = new int[SQUARES];
        private final int[] kindDrops = new int[PAWN + 1];
        private final int[] list = new int[MOST_PLAYS];
        private int listSize = 0;

        Rules(Position position) {
            this.position = position;
        }

        boolean isInCheck() {
            int side = position.sideToPlay();
            return position.countAttackers(1 - side, position.kingOf(side)) > 0;
        }

        boolean isMated() {
            return isInCheck() && findPlays() == 0;
        }

        /** Whether a number tells a play that is allowed. */
        boolean allows(int play) {
            int to = play % 100;
            if (play < 0 || !isSquare(to)) {
                return false;
            }
            if (play >= DROP) {
                int kind = (play - DROP) / 100;
                return isHandKind(kind) && whyNoDrop(kind, to) == 0;
            }
            int from = play % PROMOTED_MOVE / 100;
            return isSquare(from) && whyNoMove(from, to, play >= PROMOTED_MOVE) == 0;
        }

        int whyNoMove(int from, int to, boolean promotes) {
            int side = position.sideToPlay();
            if (sideOf(position.manOn(from)) != side) {
                return 1;
            }
            if (!has(position.attackedFrom(from), to)) {
                return 2;
            }
            if (!canEnter(side, to)) {
                return 3;
            }
            if (promotes && !has(promotingSquares(from), to)) {
                return 4;
            }
            if (!promotes && has(forcingSquares(from), to)) {
                return 5;
            }
            return has(safeTargets(from), to) ? 0 : 6;
        }

        int whyNoDrop(int kind, int to) {
            int side = position.sideToPlay();
            if (position.inHand(side, kind) == 0) {
                return 1;
            }
            if (position.manOn(to) != NO_MAN) {
                return 2;
            }
            if (kind == PAWN && has(lastRow(side), to)) {
                return 3;
            }
            if (kind == PAWN && has(pawnColumns(side), to)) {
                return 4;
            }
            if (!has(safeDrops(), to)) {
                return 5;
            }
            return kind == PAWN && withoutMates(bit(to)) == 0 ? 6 : 0;
        }

        /** Lists the plays that findPlays() found, the least first; answers how many there are. */
        int listPlays() {
            listSize = 0;
            for (int from = 0; from < SQUARES; from++) {
                addPlays(plainMoves[from], moveNumber(from, 0, false));
            }
            for (int from = 0; from < SQUARES; from++) {
                addPlays(promotedMoves[from], moveNumber(from, 0, true));
            }
            for (int kind = GOLD; kind <= PAWN; kind++) {
                addPlays(kindDrops[kind], dropNumber(kind, 0));
            }
            return listSize;
        }

        int listed(int rank) {
            return rank >= 0 && rank < listSize && rank < list.length ? list[rank] : NONE;
        }

        private void addPlays(int squares, int first) {
            for (int to = 0; to < SQUARES; to++) {
                if (has(squares, to) && listSize >= 0 && listSize < list.length) {
                    list[listSize] = first + to;
                    listSize++;
                }
            }
        }

        /** Finds all plays that are allowed; answers how many there are. */
        int findPlays() {
            int side = position.sideToPlay();
            int many = 0;
            for (int from = 0; from < SQUARES; from++) {
                boolean isOwn = sideOf(position.manOn(from)) == side;
                int targets = isOwn ? safeTargets(from) : 0;
                plainMoves[from] = targets & ~forcingSquares(from);
                promotedMoves[from] = targets & promotingSquares(from);
                many += Integer.bitCount(plainMoves[from]) + Integer.bitCount(promotedMoves[from]);
            }
            int safe = safeDrops();
            for (int kind = GOLD; kind <= PAWN; kind++) {
                int open = openToDrops(kind, safe);
                kindDrops[kind] = kind == PAWN ? withoutMates(open) : open;
                many += Integer.bitCount(kindDrops[kind]);
            }
            return many;
        }

        /** The squares on which findPlays() found that a man of a kind can be dropped. */
        int dropSquares(int kind) {
            return kind >= 0 && kind < kindDrops.length ? kindDrops[kind] : 0;
        }

        /** Whether a man of a side can move to a square that it attacks. */
        private boolean canEnter(int side, int square) {
            int man = position.manOn(square);
            return man == NO_MAN || (sideOf(man) != side && kindOf(man) != KING);
        }

        /** The squares to which the man on a square can be promoted. */
        private int promotingSquares(int from) {
            int man = position.manOn(from);
            if (man == NO_MAN || kindOf(man) < SILVER || kindOf(man) > PAWN) {
                return 0;
            }
            int last = lastRow(sideOf(man));
            return has(last, from) ? EVERY_SQUARE : last;
        }

        /** The squares to which the man on a square has to be promoted. */
        private int forcingSquares(int from) {
            int man = position.manOn(from);
            return man != NO_MAN && kindOf(man) == PAWN ? lastRow(sideOf(man)) : 0;
        }

        /** The squares to which a man can move without its own king being attacked then. */
        private int safeTargets(int from) {
            int man = position.manOn(from);
            int side = sideOf(man);
            int attacked = position.attackedFrom(from);
            int safe = 0;
            for (int to = 0; to < SQUARES; to++) {
                if (!has(attacked, to) || !canEnter(side, to)) {
                    continue;
                }
                int other = position.manOn(to);
                position.place(from, NO_MAN);
                position.place(to, man);
                if (position.countAttackers(1 - side, position.kingOf(side)) == 0) {
                    safe |= bit(to);
                }
                position.place(to, other);
                position.place(from, man);
            }
            return safe;
        }

        /** The empty squares on which a dropped man does not leave its own king attacked. */
        private int safeDrops() {
            int side = position.sideToPlay();
            int king = position.kingOf(side);
            boolean isSafe = position.countAttackers(1 - side, king) == 0;
            int safe = 0;
            for (int to = 0; to < SQUARES; to++) {
                if (position.manOn(to) != NO_MAN) {
                    continue;
                }
                position.place(to, manOf(side, GOLD));
                // a drop only shuts lines: where there was no check it makes none
                if (isSafe || position.countAttackers(1 - side, king) == 0) {
                    safe |= bit(to);
                }
                position.place(to, NO_MAN);
            }
            return safe;
        }

        /**
         * The squares, of those that safeDrops() tells, on which a man of a kind can be dropped from
         * the hand, whoever is mated by that.
         */
        private int openToDrops(int kind, int safe) {
            int side = position.sideToPlay();
            if (position.inHand(side, kind) == 0) {
                return 0;
            }
            return kind == PAWN ? safe & ~lastRow(side) & ~pawnColumns(side) : safe;
        }

        /** The squares of the columns with a pawn of a side. */
        private int pawnColumns(int side) {
            int squares = 0;
            for (int square = 0; square < SQUARES; square++) {
                if (position.manOn(square) == manOf(side, PAWN)) {
                    squares |= LEFT_COLUMN << square % WIDTH;
                }
            }
            return squares;
        }

        /** Of some squares, those on which a dropped pawn does not mate the other side. */
        private int withoutMates(int squares) {
            int kept = squares;
            for (int to = 0; to < SQUARES; to++) {
                if (!has(squares, to)) {
                    continue;
                }
                int play = dropNumber(PAWN, to);
                int taken = position.apply(play);
                if (isInCheck() && !canReply()) {
                    kept &= ~bit(to);
                }
                position.takeBack(play, taken);
            }
            return kept;
        }

        /** Whether the side to play has a play, if its pawns may be dropped to mate. */
        private boolean canReply() {
            int side = position.sideToPlay();
            for (int from = 0; from < SQUARES; from++) {
                if (sideOf(position.manOn(from)) == side && safeTargets(from) != 0) {
                    return true;
                }
            }
            int safe = safeDrops();
            for (int kind = GOLD; kind <= PAWN; kind++) {
                if (openToDrops(kind, safe) != 0) {
                    return true;
                }
            }
            return false;
        }
    }

    /** The latest states, the oldest first. */
    private static final class History {
        private static final int MOST = 4;

        private final int[] states = new int[MOST * Position.SIZE];
        private int size = 0;

        int size() {
            return size;
        }

        void push(int[] state) {
            if (state == null || state.length < Position.SIZE) {
                return;
            }
            if (size >= MOST) {
                System.arraycopy(states, Position.SIZE, states, 0, (MOST - 1) * Position.SIZE);
                size = MOST - 1;
            }
            System.arraycopy(state, 0, states, size * Position.SIZE, Position.SIZE);
            size++;
        }

        void popInto(Position position) {
            if (position == null || size <= 0) {
                return;
            }
            size--;
            position.copyFrom(states, size * Position.SIZE);
        }
    }

    /** The text, and the plays that are read from it. */
    private static final class PlayText {
        static final int NO_FAULT = -1;
        private static final int MOST = 60;
        private static final int NOT_READ = -1;
        /** The letters of the kinds from gold to pawn, in their order. */
        private static final String LETTERS = "gsbrp";

        private final char[] signs = new char[MOST];
        private int size = 0;
        private final int[] plays = new int[MOST];
        private int playsRead = 0;
        /** The index of the next character to be read; after a failure, of the one at fault. */
        private int cursor = 0;

        int size() {
            return size;
        }

        boolean isFull() {
            return size >= MOST;
        }

        void append(char sign) {
            if (size >= 0 && size < signs.length) {
                signs[size] = sign;
                size++;
            }
        }

        void empty() {
            size = 0;
        }

        int playsRead() {
            return playsRead;
        }

        int playRead(int index) {
            return index >= 0 && index < playsRead && index < plays.length ? plays[index] : NOT_READ;
        }

        /** Reads the plays of the text; answers the fault of the text, or NO_FAULT. */
        int readPlays() {
            cursor = 0;
            playsRead = 0;
            for (int i = 0; i < plays.length; i++) {
                int play = readPlay();
                if (play == NOT_READ) {
                    return cursor;
                }
                plays[i] = play;
                playsRead = i + 1;
                if (cursor >= size) {
                    return NO_FAULT;
                }
                if (!passes(';')) {
                    return cursor;
                }
            }
            return cursor;
        }

        private int readPlay() {
            int kind = kindOfLetter();
            if (kind != NOT_READ) {
                cursor++;
                int to = passes('*') ? readSquare() : NOT_READ;
                return to == NOT_READ ? NOT_READ : dropNumber(kind, to);
            }
            int from = readSquare();
            if (from == NOT_READ || !passes('-')) {
                return NOT_READ;
            }
            int to = readSquare();
            return to == NOT_READ ? NOT_READ : moveNumber(from, to, passes('+'));
        }

        private int readSquare() {
            int row = readDigit();
            int column = row == NOT_READ ? NOT_READ : readDigit();
            return column == NOT_READ ? NOT_READ : row * WIDTH + column;
        }

        private int readDigit() {
            for (int digit = 0; digit < WIDTH; digit++) {
                if (passes((char) ('0' + digit))) {
                    return digit;
                }
            }
            return NOT_READ;
        }

        /** The kind that the next character tells, or NOT_READ. */
        private int kindOfLetter() {
            for (int i = 0; i < LETTERS.length(); i++) {
                if (isNext(LETTERS.charAt(i))) {
                    return GOLD + i;
                }
            }
            return NOT_READ;
        }

        private boolean isNext(char sign) {
            return cursor >= 0 && cursor < size && cursor < signs.length && signs[cursor] == sign;
        }

        /** Goes past the next character if it is this one; answers whether it was. */
        private boolean passes(char sign) {
            if (!isNext(sign)) {
                return false;
            }
            cursor++;
            return true;
        }
    }
}
