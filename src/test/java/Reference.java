import java.util.ArrayDeque;
import java.util.ArrayList;
import java.util.List;
import java.util.Set;
import java.util.TreeSet;
import java.util.regex.Pattern;

/**
 * The document said again in the slowest and plainest way, to compare with: every play number is
 * tried, every position is a copy.
 */
final class Reference {
    static final int UNKNOWN = -1001;
    static final int OUT_OF_RANGE = -1002;
    static final int FULL = -1003;
    static final int NOT_POSSIBLE = -1004;
    static final int NONE = -1005;

    private static final int[] WORTH = {0, 6, 5, 8, 10, 1, 6, 11, 13, 4};
    private static final String PLAY = "([0-4][0-4]-[0-4][0-4]\\+?|[gsbrp]\\*[0-4][0-4])";
    private static final Pattern TEXT = Pattern.compile(PLAY + "(;" + PLAY + ")*", Pattern.DOTALL);

    /** A man on the board. */
    private record Man(int side, int kind) {
        int number() {
            return 10 * side + kind;
        }
    }

    /** A state, which is never changed once it is in use. */
    private static final class State {
        Man[][] board = new Man[5][5];
        int[][] hands = new int[2][6];
        int side = 0;
        int plays = 0;
        int taken = 0;
        int promoted = 0;
        int dropped = 0;

        State copy() {
            State copy = new State();
            for (int row = 0; row < 5; row++) {
                copy.board[row] = board[row].clone();
            }
            copy.hands = new int[][] {hands[0].clone(), hands[1].clone()};
            copy.side = side;
            copy.plays = plays;
            copy.taken = taken;
            copy.promoted = promoted;
            copy.dropped = dropped;
            return copy;
        }

        Man at(int square) {
            return board[square / 5][square % 5];
        }

        int men() {
            int many = 0;
            for (int square = 0; square < 25; square++) {
                many += at(square) == null ? 0 : 1;
            }
            return many;
        }

        int inHand(int side) {
            int many = 0;
            for (int kind = 1; kind <= 5; kind++) {
                many += hands[side][kind];
            }
            return many;
        }
    }

    private State now = new State();
    private final ArrayDeque<State> history = new ArrayDeque<>();
    private State snapshot = null;
    private final StringBuilder text = new StringBuilder();

    Reference() {
        int[] first = {0, 1, 2, 3, 4};
        for (int column = 0; column < 5; column++) {
            now.board[4][column] = new Man(0, first[column]);
            now.board[0][4 - column] = new Man(1, first[column]);
        }
        now.board[3][0] = new Man(0, 5);
        now.board[1][4] = new Man(1, 5);
    }

    // ---- how men move

    private static Set<Integer> attacks(State state, int square) {
        Man man = state.at(square);
        int on = man.side == 0 ? -1 : 1;
        Set<Integer> squares = new TreeSet<>();
        boolean gold = man.kind == 1 || man.kind == 6 || man.kind == 9;
        for (int rows = -1; rows <= 1; rows++) {
            for (int columns = -1; columns <= 1; columns++) {
                if (rows == 0 && columns == 0) {
                    continue;
                }
                boolean slant = rows != 0 && columns != 0;
                boolean forward = rows == on;
                boolean backward = rows == -on;
                boolean slides = slant ? man.kind == 3 || man.kind == 7 : man.kind == 4 || man.kind == 8;
                boolean steps = slides || man.kind == 0
                        || gold && !(slant && backward)
                        || man.kind == 2 && (forward || slant && backward)
                        || man.kind == 5 && forward && !slant
                        || man.kind == 7 && !slant
                        || man.kind == 8 && slant;
                if (steps) {
                    go(state, square, rows, columns, slides ? 4 : 1, squares);
                }
            }
        }
        return squares;
    }

    private static void go(State state, int square, int rows, int columns, int most, Set<Integer> to) {
        int row = square / 5;
        int column = square % 5;
        for (int i = 0; i < most; i++) {
            row += rows;
            column += columns;
            if (row < 0 || row > 4 || column < 0 || column > 4) {
                return;
            }
            to.add(5 * row + column);
            if (state.board[row][column] != null) {
                return;
            }
        }
    }

    private static int attackerCount(State state, int side, int square) {
        int many = 0;
        for (int from = 0; from < 25; from++) {
            Man man = state.at(from);
            if (man != null && man.side == side && attacks(state, from).contains(square)) {
                many++;
            }
        }
        return many;
    }

    private static boolean kingAttacked(State state, int side) {
        for (int square = 0; square < 25; square++) {
            Man man = state.at(square);
            if (man != null && man.side == side && man.kind == 0) {
                return attackerCount(state, 1 - side, square) > 0;
            }
        }
        return false;
    }

    private static boolean isLastRow(int side, int square) {
        return square / 5 == (side == 0 ? 0 : 4);
    }

    // ---- plays

    private static State after(State state, int play) {
        State next = state.copy();
        int to = play % 100;
        int side = state.side;
        next.side = 1 - side;
        next.plays++;
        if (play >= 20000) {
            int kind = (play - 20000) / 100;
            next.hands[side][kind]--;
            next.board[to / 5][to % 5] = new Man(side, kind);
            next.dropped++;
            return next;
        }
        int from = play % 10000 / 100;
        Man man = state.at(from);
        Man taken = state.at(to);
        if (taken != null) {
            int[] plain = {0, 1, 2, 3, 4, 5, 2, 3, 4, 5};
            next.hands[side][plain[taken.kind]]++;
            next.taken++;
        }
        if (play >= 10000) {
            man = new Man(side, man.kind + 4);
            next.promoted++;
        }
        next.board[from / 5][from % 5] = null;
        next.board[to / 5][to % 5] = man;
        return next;
    }

    private static int whyNoMove(State state, int from, int to, boolean promotes) {
        Man man = state.at(from);
        if (man == null || man.side != state.side) {
            return 1;
        }
        if (!attacks(state, from).contains(to)) {
            return 2;
        }
        Man other = state.at(to);
        if (other != null && (other.side == state.side || other.kind == 0)) {
            return 3;
        }
        boolean last = isLastRow(state.side, from) || isLastRow(state.side, to);
        if (promotes && !(man.kind >= 2 && man.kind <= 5 && last)) {
            return 4;
        }
        if (!promotes && man.kind == 5 && isLastRow(state.side, to)) {
            return 5;
        }
        State next = after(state, 100 * from + to + (promotes ? 10000 : 0));
        return kingAttacked(next, state.side) ? 6 : 0;
    }

    private static int whyNoDrop(State state, int kind, int to, boolean mayMate) {
        int side = state.side;
        if (state.hands[side][kind] == 0) {
            return 1;
        }
        if (state.at(to) != null) {
            return 2;
        }
        if (kind == 5 && isLastRow(side, to)) {
            return 3;
        }
        if (kind == 5) {
            for (int row = 0; row < 5; row++) {
                Man man = state.board[row][to % 5];
                if (man != null && man.side == side && man.kind == 5) {
                    return 4;
                }
            }
        }
        State next = after(state, 20000 + 100 * kind + to);
        if (kingAttacked(next, side)) {
            return 5;
        }
        if (kind == 5 && !mayMate && kingAttacked(next, 1 - side) && allowed(next, true).isEmpty()) {
            return 6;
        }
        return 0;
    }

    private static List<Integer> allowed(State state, boolean pawnsMayMate) {
        List<Integer> plays = new ArrayList<>();
        for (int promotes = 0; promotes < 2; promotes++) {
            for (int from = 0; from < 25; from++) {
                if (state.at(from) == null || state.at(from).side != state.side) {
                    continue;
                }
                for (int to : attacks(state, from)) {
                    if (whyNoMove(state, from, to, promotes == 1) == 0) {
                        plays.add(10000 * promotes + 100 * from + to);
                    }
                }
            }
        }
        for (int kind = 1; kind <= 5; kind++) {
            for (int to = 0; to < 25; to++) {
                if (whyNoDrop(state, kind, to, pawnsMayMate) == 0) {
                    plays.add(20000 + 100 * kind + to);
                }
            }
        }
        return plays;
    }

    private static List<Integer> allowed(State state) {
        return allowed(state, false);
    }

    private static boolean isMated(State state) {
        return kingAttacked(state, state.side) && allowed(state).isEmpty();
    }

    private static int worthFor(State state, int side) {
        int worth = 0;
        for (int square = 0; square < 25; square++) {
            Man man = state.at(square);
            if (man != null) {
                worth += man.side == side ? WORTH[man.kind] : -WORTH[man.kind];
            }
        }
        for (int kind = 1; kind <= 5; kind++) {
            worth += (state.hands[side][kind] - state.hands[1 - side][kind]) * (WORTH[kind] + 1);
        }
        return worth;
    }

    // ---- the calls

    private void change(State next) {
        history.addLast(now);
        if (history.size() > 4) {
            history.removeFirst();
        }
        now = next;
    }

    private static boolean isIn(int number, int least, int greatest) {
        return number >= least && number <= greatest;
    }

    int move(int from, int to, boolean promotes) {
        int reason = moveReason(from, to, promotes);
        if (reason != 0) {
            return reason < 0 ? reason : NOT_POSSIBLE;
        }
        Man taken = now.at(to);
        change(after(now, 100 * from + to + (promotes ? 10000 : 0)));
        return taken == null ? 99 : taken.number();
    }

    int drop(int kind, int to) {
        int reason = dropReason(kind, to);
        if (reason != 0) {
            return reason < 0 ? reason : NOT_POSSIBLE;
        }
        int side = now.side;
        change(after(now, 20000 + 100 * kind + to));
        return now.hands[side][kind];
    }

    int make(int play) {
        if (!allowed(now).contains(play)) {
            return NOT_POSSIBLE;
        }
        change(after(now, play));
        return total(4);
    }

    int put(int square, int man) {
        if (!isIn(square, 0, 24) || !isIn(man, 0, 19)) {
            return UNKNOWN;
        }
        Man added = new Man(man / 10, man % 10);
        for (int other = 0; other < 25; other++) {
            if (added.kind == 0 && other != square && added.equals(now.at(other))) {
                return NOT_POSSIBLE;
            }
        }
        if (added.equals(now.at(square))) {
            return NONE;
        }
        State next = now.copy();
        next.board[square / 5][square % 5] = added;
        change(next);
        return now.men();
    }

    int takeOff(int square) {
        if (!isIn(square, 0, 24)) {
            return UNKNOWN;
        }
        Man man = now.at(square);
        if (man == null) {
            return NONE;
        }
        State next = now.copy();
        next.board[square / 5][square % 5] = null;
        change(next);
        return man.number();
    }

    int setHand(int side, int kind, int many) {
        if (!isIn(side, 0, 1) || !isIn(kind, 1, 5)) {
            return UNKNOWN;
        }
        if (!isIn(many, 0, 4)) {
            return OUT_OF_RANGE;
        }
        int had = now.hands[side][kind];
        if (had == many) {
            return NONE;
        }
        State next = now.copy();
        next.hands[side][kind] = many;
        change(next);
        return had;
    }

    int clearAll() {
        int many = now.men() + now.inHand(0) + now.inHand(1);
        if (many == 0) {
            return NONE;
        }
        State next = now.copy();
        next.board = new Man[5][5];
        next.hands = new int[2][6];
        change(next);
        return many;
    }

    int setSide(int side) {
        if (!isIn(side, 0, 1)) {
            return UNKNOWN;
        }
        if (now.side == side) {
            return NONE;
        }
        State next = now.copy();
        next.side = side;
        change(next);
        return allowed(now).size();
    }

    int type(char character) {
        if (text.length() == 60) {
            return FULL;
        }
        text.append(character);
        return text.length();
    }

    int clearText() {
        int had = text.length();
        text.setLength(0);
        return had;
    }

    /** The fault: the length of the longest start that can be made to a whole text; -1 if whole. */
    private static int fault(String text) {
        if (TEXT.matcher(text).matches()) {
            return -1;
        }
        int length = text.length();
        while (length > 0 && !canBecomeText(text.substring(0, length))) {
            length--;
        }
        return length;
    }

    private static boolean canBecomeText(String start) {
        for (String end : new String[] {"", "0", "00", "-00", "0-00", "*00", "g*00"}) {
            if (TEXT.matcher(start + end).matches()) {
                return true;
            }
        }
        return false;
    }

    int perform() {
        int fault = fault(text.toString());
        if (fault >= 0) {
            return -2000 - fault;
        }
        String[] plays = text.toString().split(";");
        State next = now;
        for (String play : plays) {
            int number = numberOf(play);
            if (!allowed(next).contains(number)) {
                return NOT_POSSIBLE;
            }
            next = after(next, number);
        }
        change(next);
        return plays.length;
    }

    private static int squareOf(String row, int at) {
        return 5 * (row.charAt(at) - '0') + row.charAt(at + 1) - '0';
    }

    private static int numberOf(String play) {
        if (play.charAt(1) == '*') {
            return 20000 + 100 * (" gsbrp".indexOf(play.charAt(0))) + squareOf(play, 2);
        }
        return 100 * squareOf(play, 0) + squareOf(play, 3) + (play.endsWith("+") ? 10000 : 0);
    }

    int undo() {
        if (history.isEmpty()) {
            return NONE;
        }
        now = history.removeLast();
        return history.size();
    }

    int keep() {
        snapshot = now;
        return now.men();
    }

    int restore() {
        if (snapshot == null) {
            return NONE;
        }
        change(snapshot);
        return now.men();
    }

    int man(int square) {
        if (!isIn(square, 0, 24)) {
            return UNKNOWN;
        }
        return now.at(square) == null ? NONE : now.at(square).number();
    }

    int hand(int side, int kind) {
        return isIn(side, 0, 1) && isIn(kind, 1, 5) ? now.hands[side][kind] : UNKNOWN;
    }

    int attackers(int side, int square) {
        return isIn(side, 0, 1) && isIn(square, 0, 24) ? attackerCount(now, side, square) : UNKNOWN;
    }

    int attacked(int square) {
        if (!isIn(square, 0, 24)) {
            return UNKNOWN;
        }
        if (now.at(square) == null) {
            return NONE;
        }
        int bits = 0;
        for (int to : attacks(now, square)) {
            bits |= 1 << to;
        }
        return bits;
    }

    int total(int what) {
        return switch (what) {
            case 0 -> now.side;
            case 1 -> now.men();
            case 2 -> now.inHand(0);
            case 3 -> now.inHand(1);
            case 4 -> kingAttacked(now, now.side) ? 1 : 0;
            case 5 -> isMated(now) ? 1 : 0;
            case 6 -> allowed(now).isEmpty() ? 1 : 0;
            case 7 -> allowed(now).size();
            case 8 -> now.plays;
            case 9 -> now.taken;
            case 10 -> now.promoted;
            case 11 -> now.dropped;
            case 12 -> history.size();
            case 13 -> text.length();
            default -> OUT_OF_RANGE;
        };
    }

    int worth(int side) {
        return isIn(side, 0, 1) ? worthFor(now, side) : UNKNOWN;
    }

    int moveReason(int from, int to, boolean promotes) {
        return isIn(from, 0, 24) && isIn(to, 0, 24) ? whyNoMove(now, from, to, promotes) : UNKNOWN;
    }

    int dropReason(int kind, int to) {
        return isIn(kind, 1, 5) && isIn(to, 0, 24) ? whyNoDrop(now, kind, to, false) : UNKNOWN;
    }

    int playAt(int rank) {
        if (rank < 0) {
            return OUT_OF_RANGE;
        }
        List<Integer> plays = allowed(now);
        return rank < plays.size() ? plays.get(rank) : NONE;
    }

    int drops(int kind) {
        if (!isIn(kind, 1, 5)) {
            return UNKNOWN;
        }
        int bits = 0;
        for (int to = 0; to < 25; to++) {
            bits |= whyNoDrop(now, kind, to, false) == 0 ? 1 << to : 0;
        }
        return bits;
    }

    int mate() {
        for (int play : allowed(now)) {
            if (isMated(after(now, play))) {
                return play;
            }
        }
        return NONE;
    }

    int tightest() {
        int best = NONE;
        int fewest = 0;
        int greatest = 0;
        for (int play : allowed(now)) {
            State next = after(now, play);
            int replies = allowed(next).size();
            int worth = worthFor(next, now.side);
            if (best == NONE || replies < fewest || replies == fewest && worth > greatest) {
                best = play;
                fewest = replies;
                greatest = worth;
            }
        }
        return best;
    }
}
