/** Promises 5 (put), 6 (takeOff), 7 (setHand), 8 (clearAll) and 9 (setSide). */
public final class PositionsTest {
    private static final int UNKNOWN = -1001;
    private static final int OUT_OF_RANGE = -1002;
    private static final int NOT_POSSIBLE = -1004;
    private static final int NONE = -1005;

    public static void main(String[] args) {
        promise5Put();
        promise5EveryMan();
        promise5Kings();
        promise5Refused();
        promise6TakeOff();
        promise7SetHand();
        promise8ClearAll();
        promise9SetSide();
        noPlaysAreCounted();
        Due.end();
    }

    private static void promise5Put() {
        FiveShogi x = new FiveShogi();
        Due.due("onto an empty square", x.put(12, 18), 13);
        Due.due("the man", x.man(12), 18);
        Due.due("in place of another", x.put(12, 5), 13);
        Due.due("the man", x.man(12), 5);
        Due.due("in place of a man of the start", x.put(24, 14), 13);
        Due.due("there already", x.put(24, 14), NONE);
        Due.due("history", x.total(12), 3);
        Due.due("hands", x.total(2) + x.total(3), 0);
        Due.due("a pawn on its last row", x.put(2, 5), 13);
        Due.due("two pawns in a column", x.put(6, 15), 14);
        Due.due("two pawns in a column", x.put(11, 15), 15);
        Due.due("side to play", x.total(0), 0);
    }

    private static void promise5EveryMan() {
        FiveShogi x = new FiveShogi();
        x.clearAll();
        for (int man = 0; man < 20; man++) {
            Due.due("put(" + man + ")", x.put(man, man), man + 1);
            Due.due("man(" + man + ")", x.man(man), man);
        }
    }

    private static void promise5Kings() {
        FiveShogi x = new FiveShogi();
        Due.due("a second king", x.put(12, 0), NOT_POSSIBLE);
        Due.due("a second king of the side 1", x.put(12, 10), NOT_POSSIBLE);
        Due.due("the same king", x.put(20, 0), NONE);
        Due.due("the same king of the side 1", x.put(4, 10), NONE);
        Due.due("a king in place of another side's king", x.put(4, 0), NOT_POSSIBLE);
        x.takeOff(20);
        Due.due("a king that was taken off", x.put(4, 0), 11);
        Due.due("the other king is gone, and comes again", x.put(12, 10), 12);
        Due.due("it is there", x.put(13, 10), NOT_POSSIBLE);
        Due.due("a man in place of a king", x.put(12, 11), 12);
        Due.due("the king comes elsewhere", x.put(13, 10), 13);
        Due.due("after a move", x.move(4, 8, false), NOT_POSSIBLE);
        x = Setup.of("k . . . . . . . . . . . . . . . . . . . . . . . K", 0, "");
        x.move(24, 18, false);
        Due.due("the king has moved", x.put(24, 0), NOT_POSSIBLE);
        Due.due("the king is here", x.put(18, 0), NONE);
        x.undo();
        Due.due("the king is back", x.put(18, 0), NOT_POSSIBLE);
        x.clearAll();
        Due.due("all are gone", x.put(18, 0), 1);
        x.undo();
        x.undo();
        Due.due("the kings are back", x.put(18, 0), NOT_POSSIBLE);
    }

    private static void promise5Refused() {
        FiveShogi x = new FiveShogi();
        Due.due("square -1", x.put(-1, 1), UNKNOWN);
        Due.due("square 25", x.put(25, 1), UNKNOWN);
        Due.due("man -1", x.put(12, -1), UNKNOWN);
        Due.due("man 20", x.put(12, 20), UNKNOWN);
        Due.due("man 99", x.put(12, 99), UNKNOWN);
        Due.due("man 99 on a full square", x.put(0, 99), UNKNOWN);
        Due.due("least", x.put(Integer.MIN_VALUE, Integer.MIN_VALUE), UNKNOWN);
        Due.due("greatest", x.put(Integer.MAX_VALUE, Integer.MAX_VALUE), UNKNOWN);
        Due.due("unknown before not possible", x.put(25, 0), UNKNOWN);
        Due.due("history", x.total(12), 0);
        Due.due("men", x.total(1), 12);
    }

    private static void promise6TakeOff() {
        FiveShogi x = new FiveShogi();
        Due.due("a rook", x.takeOff(0), 14);
        Due.due("no man is left", x.man(0), NONE);
        Due.due("none", x.takeOff(0), NONE);
        Due.due("a king", x.takeOff(20), 0);
        Due.due("men", x.total(1), 10);
        Due.due("hands", x.total(2) + x.total(3), 0);
        Due.due("history", x.total(12), 2);
        Due.due("square -1", x.takeOff(-1), UNKNOWN);
        Due.due("square 25", x.takeOff(25), UNKNOWN);
        Due.due("square 24", x.takeOff(24), 4);
        Due.due("empty", x.takeOff(12), NONE);
        Due.due("history", x.total(12), 3);
    }

    private static void promise7SetHand() {
        FiveShogi x = new FiveShogi();
        for (int side = 0; side < 2; side++) {
            for (int kind = 1; kind <= 5; kind++) {
                Due.due("to 4", x.setHand(side, kind, 4), 0);
                Due.due("to 4 again", x.setHand(side, kind, 4), NONE);
                Due.due("to " + (kind - 1), x.setHand(side, kind, kind - 1), kind == 5 ? NONE : 4);
            }
        }
        for (int kind = 1; kind <= 5; kind++) {
            Due.due("hand of 0", x.hand(0, kind), kind - 1);
            Due.due("hand of 1", x.hand(1, kind), kind - 1);
        }
        Due.due("side -1", x.setHand(-1, 1, 1), UNKNOWN);
        Due.due("side 2", x.setHand(2, 1, 1), UNKNOWN);
        Due.due("kind 0", x.setHand(0, 0, 1), UNKNOWN);
        Due.due("kind 6", x.setHand(1, 6, 1), UNKNOWN);
        Due.due("unknown before out of range", x.setHand(0, 6, 5), UNKNOWN);
        Due.due("-1 men", x.setHand(0, 1, -1), OUT_OF_RANGE);
        Due.due("5 men", x.setHand(0, 1, 5), OUT_OF_RANGE);
        Due.due("no change", x.hand(0, 1), 0);
        x = new FiveShogi();
        Due.due("none", x.setHand(0, 1, 0), NONE);
        Due.due("history", x.total(12), 0);
        Due.due("one", x.setHand(0, 1, 1), 0);
        Due.due("history", x.total(12), 1);
        x = Setup.of("k . . . . . . . . . . . p . . . . R . . . . . . K", 0, "PPPP");
        x.move(17, 12, false);
        Due.due("five by taking", x.setHand(0, 5, 4), 5);
        Due.due("four", x.hand(0, 5), 4);
    }

    private static void promise8ClearAll() {
        FiveShogi x = new FiveShogi();
        x.setHand(0, 1, 3);
        x.setHand(1, 5, 2);
        x.move(15, 10, false);
        Due.due("men and hands", x.clearAll(), 17);
        Due.due("men", x.total(1), 0);
        Due.due("hand 0", x.total(2), 0);
        Due.due("hand 1", x.total(3), 0);
        Due.due("the side to play stays", x.total(0), 1);
        Due.due("the counts stay", x.total(8), 1);
        Due.due("none", x.clearAll(), NONE);
        Due.due("history", x.total(12), 4);
        x.setHand(1, 2, 1);
        Due.due("a hand alone", x.clearAll(), 1);
        x.setHand(0, 2, 1);
        Due.due("the other hand alone", x.clearAll(), 1);
        x.put(3, 3);
        Due.due("a man alone", x.clearAll(), 1);
        Due.due("undo()", x.undo(), 3);
        Due.due("the man is back", x.man(3), 3);
    }

    private static void promise9SetSide() {
        FiveShogi x = new FiveShogi();
        Due.due("side 2", x.setSide(2), UNKNOWN);
        Due.due("side -1", x.setSide(-1), UNKNOWN);
        Due.due("it is already", x.setSide(0), NONE);
        Due.due("history", x.total(12), 0);
        Due.due("the plays of the side 1", x.setSide(1), 14);
        Due.due("side", x.total(0), 1);
        Due.due("it is already", x.setSide(1), NONE);
        Due.due("history", x.total(12), 1);
        Due.due("undo()", x.undo(), 0);
        Due.due("side", x.total(0), 0);
        x = Setup.of("k . . . . . . . . . . . . . . . . . . . . . . . K", 0, "g");
        Due.due("moves and drops", x.setSide(1), 3 + 23);
        Due.due("moves", x.setSide(0), 3);
        x.takeOff(24);
        Due.due("with a gold", x.setSide(1), 3 + 24);
        Due.due("no plays", x.setSide(0), 0);
    }

    private static void noPlaysAreCounted() {
        FiveShogi x = new FiveShogi();
        x.put(12, 15);
        x.takeOff(12);
        x.setHand(0, 1, 1);
        x.setSide(1);
        x.clearAll();
        for (int what = 8; what <= 11; what++) {
            Due.due("total(" + what + ")", x.total(what), 0);
        }
    }
}
