/** Promises 1 (a new object), 16 (man), 17 (hand), 18 (attackers), 19 (attacked), 20, 21. */
public final class ViewsTest {
    private static final int UNKNOWN = -1001;
    private static final int OUT_OF_RANGE = -1002;
    private static final int NONE = -1005;

    public static void main(String[] args) {
        promise1ANewObject();
        promise1ObjectsStandAlone();
        promise16Man();
        promise17Hand();
        promise18Attackers();
        promise19EveryManInTheMiddle();
        promise19Edges();
        promise19Blocks();
        promise19Refused();
        promise20Counts();
        promise20Checks();
        promise20Refused();
        promise21Worth();
        promise21EveryKind();
        Due.end();
    }

    private static void promise1ANewObject() {
        FiveShogi x = new FiveShogi();
        int[] men = {
            14, 13, 12, 11, 10,
            NONE, NONE, NONE, NONE, 15,
            NONE, NONE, NONE, NONE, NONE,
            5, NONE, NONE, NONE, NONE,
            0, 1, 2, 3, 4
        };
        for (int square = 0; square < 25; square++) {
            Due.due("man(" + square + ")", x.man(square), men[square]);
        }
        for (int kind = 1; kind <= 5; kind++) {
            Due.due("hand(0, " + kind + ")", x.hand(0, kind), 0);
            Due.due("hand(1, " + kind + ")", x.hand(1, kind), 0);
        }
        int[] totals = {0, 12, 0, 0, 0, 0, 0, 14, 0, 0, 0, 0, 0, 0};
        for (int what = 0; what < totals.length; what++) {
            Due.due("total(" + what + ")", x.total(what), totals[what]);
        }
        Due.due("no snapshot", x.restore(), NONE);
        Due.due("no history", x.undo(), NONE);
        Due.due("an empty text", x.clearText(), 0);
    }

    private static void promise1ObjectsStandAlone() {
        FiveShogi x = new FiveShogi();
        FiveShogi y = new FiveShogi();
        x.clearAll();
        x.type('a');
        x.keep();
        Due.due("men of another", y.total(1), 12);
        Due.due("text of another", y.total(13), 0);
        Due.due("history of another", y.total(12), 0);
        Due.due("snapshot of another", y.restore(), NONE);
        Due.due("a new one", new FiveShogi().total(1), 12);
    }

    private static void promise16Man() {
        FiveShogi x = new FiveShogi();
        Due.due("a king, number 0", x.man(20), 0);
        Due.due("empty", x.man(12), NONE);
        Due.due("square -1", x.man(-1), UNKNOWN);
        Due.due("square 25", x.man(25), UNKNOWN);
        Due.due("least", x.man(Integer.MIN_VALUE), UNKNOWN);
        Due.due("greatest", x.man(Integer.MAX_VALUE), UNKNOWN);
    }

    private static void promise17Hand() {
        FiveShogi x = new FiveShogi();
        x.setHand(0, 1, 1);
        x.setHand(1, 5, 2);
        Due.due("hand(0, 1)", x.hand(0, 1), 1);
        Due.due("hand(1, 1)", x.hand(1, 1), 0);
        Due.due("hand(1, 5)", x.hand(1, 5), 2);
        Due.due("hand(0, 5)", x.hand(0, 5), 0);
        Due.due("kind 0", x.hand(0, 0), UNKNOWN);
        Due.due("kind 6", x.hand(0, 6), UNKNOWN);
        Due.due("side -1", x.hand(-1, 1), UNKNOWN);
        Due.due("side 2", x.hand(2, 1), UNKNOWN);
        Due.due("greatest", x.hand(Integer.MAX_VALUE, Integer.MAX_VALUE), UNKNOWN);
    }

    private static void promise18Attackers() {
        FiveShogi x = Setup.of(
                "B . R . b "
                + ". S . G . "
                + "r . . . R "
                + ". P P P . "
                + "k . K . .", 0, "");
        Due.due("two rooks, a silver, a pawn", x.attackers(0, 12), 4);
        Due.due("the side 1 there", x.attackers(1, 12), 1);
        Due.due("its own man's square", x.attackers(0, 17), 2);
        Due.due("a rook, a gold, a pawn", x.attackers(0, 13), 3);
        Due.due("another's man's square", x.attackers(0, 10), 2);
        Due.due("a king and a rook", x.attackers(1, 15), 2);
        Due.due("a king", x.attackers(0, 23), 1);
        Due.due("the king's own square", x.attackers(0, 22), 0);
        Due.due("side -1", x.attackers(-1, 12), UNKNOWN);
        Due.due("side 2", x.attackers(2, 12), UNKNOWN);
        Due.due("square -1", x.attackers(0, -1), UNKNOWN);
        Due.due("square 25", x.attackers(1, 25), UNKNOWN);
        x = Setup.of(". . . . . . +r g +b . . +r . +r . . +p k +s . . . . . .", 0, "");
        Due.due("from eight sides, two not slantwise backward", x.attackers(1, 12), 6);
        x = Setup.of(". . . . . . g g g . . r . r . . b k b . . . . . .", 0, "");
        Due.due("from eight sides", x.attackers(1, 12), 8);
        Due.due("none of the other side", x.attackers(0, 12), 0);
    }

    private static void promise19EveryManInTheMiddle() {
        int[] all = {6, 7, 8, 11, 13, 16, 17, 18};
        int[] gold0 = {6, 7, 8, 11, 13, 17};
        int[] gold1 = {16, 17, 18, 11, 13, 7};
        int[] bishop = {0, 6, 4, 8, 16, 20, 18, 24};
        int[] rook = {2, 7, 10, 11, 13, 14, 17, 22};
        in(0, all);
        in(1, gold0);
        in(2, 6, 7, 8, 16, 18);
        in(3, bishop);
        in(4, rook);
        in(5, 7);
        in(6, gold0);
        in(7, 0, 6, 4, 8, 16, 20, 18, 24, 7, 11, 13, 17);
        in(8, 2, 7, 10, 11, 13, 14, 17, 22, 6, 8, 16, 18);
        in(9, gold0);
        in(10, all);
        in(11, gold1);
        in(12, 16, 17, 18, 6, 8);
        in(13, bishop);
        in(14, rook);
        in(15, 17);
        in(16, gold1);
        in(17, 0, 6, 4, 8, 16, 20, 18, 24, 7, 11, 13, 17);
        in(18, 2, 7, 10, 11, 13, 14, 17, 22, 6, 8, 16, 18);
        in(19, gold1);
    }

    /** A man alone in the middle attacks these squares, and each of them has it as an attacker. */
    private static void in(int man, int... squares) {
        FiveShogi x = new FiveShogi();
        x.clearAll();
        x.put(12, man);
        int bits = Setup.bits(squares);
        Due.due("attacked() by the man " + man, x.attacked(12), bits);
        for (int square = 0; square < 25; square++) {
            Due.due("attackers() of " + square + " with the man " + man,
                    x.attackers(man / 10, square), bits >> square & 1);
            Due.due("attackers() of the other side", x.attackers(1 - man / 10, square), 0);
        }
    }

    private static void promise19Edges() {
        at(0, 0, 1, 5, 6);
        at(4, 0, 3, 8, 9);
        at(20, 0, 15, 16, 21);
        at(24, 0, 18, 19, 23);
        at(0, 1, 1, 5);
        at(4, 11, 3, 8, 9);
        at(22, 1, 21, 23, 16, 17, 18);
        at(22, 11, 21, 23, 17);
        at(0, 2, 6);
        at(9, 2, 4, 3, 13);
        at(2, 5);
        at(7, 5, 2);
        at(22, 15);
        at(17, 15, 22);
        at(4, 5);
        at(10, 5, 5);
        at(14, 15, 19);
        at(9, 3, 3, 13, 17, 21);
        at(5, 4, 0, 10, 15, 20, 6, 7, 8, 9);
        at(14, 8, 4, 9, 19, 24, 10, 11, 12, 13, 8, 18);
        at(10, 7, 6, 2, 16, 22, 5, 11, 15);
    }

    private static void at(int square, int man, int... squares) {
        FiveShogi x = new FiveShogi();
        x.clearAll();
        x.put(square, man);
        Due.due("attacked(" + square + ") by the man " + man, x.attacked(square), Setup.bits(squares));
    }

    private static void promise19Blocks() {
        FiveShogi x = Setup.of(
                "k . . . . "
                + ". . P . . "
                + ". g R . . "
                + ". . . . . "
                + "B . . . K", 0, "");
        Due.due("a rook to its own and to other men", x.attacked(12),
                Setup.bits(7, 11, 13, 14, 17, 22));
        Due.due("a bishop to its own man", x.attacked(20), Setup.bits(16, 12));
        Due.due("a pawn", x.attacked(7), Setup.bits(2));
        Due.due("a gold of the side 1", x.attacked(11), Setup.bits(15, 16, 17, 10, 12, 6));
        x.takeOff(12);
        Due.due("a bishop through", x.attacked(20), Setup.bits(16, 12, 8, 4));
        x.put(16, 10 + 5);
        Due.due("a bishop to another's man", x.attacked(20), Setup.bits(16));
        x.put(7, 7);
        x.put(13, 8);
        Due.due("a promoted bishop is stopped", x.attacked(7),
                Setup.bits(1, 2, 3, 6, 8, 12, 11, 13));
        Due.due("a promoted rook", x.attacked(13),
                Setup.bits(3, 8, 18, 23, 14, 12, 11, 7, 9, 17, 19));
        x = Setup.of("r . . . k . . . . . . . . . . G . . . . K . . . .", 0, "");
        Due.due("a man that is held attacks all the same", x.attacked(15),
                Setup.bits(10, 11, 16, 20));
        Due.due("a king attacks squares that it can't go to", x.attacked(20), Setup.bits(15, 16, 21));
    }

    private static void promise19Refused() {
        FiveShogi x = new FiveShogi();
        Due.due("square -1", x.attacked(-1), UNKNOWN);
        Due.due("square 25", x.attacked(25), UNKNOWN);
        Due.due("no man", x.attacked(12), NONE);
    }

    private static void promise20Counts() {
        FiveShogi x = new FiveShogi();
        x.move(24, 9, false);
        x.move(4, 9, false);
        x.drop(5, 14);
        Due.due("side", x.total(0), 1);
        Due.due("men", x.total(1), 11);
        Due.due("hand 0", x.total(2), 0);
        Due.due("hand 1", x.total(3), 1);
        Due.due("check", x.total(4), 1);
        Due.due("mated", x.total(5), 0);
        Due.due("lost", x.total(6), 0);
        Due.due("allowed", x.total(7), 4);
        Due.due("plays", x.total(8), 3);
        Due.due("taken", x.total(9), 2);
        Due.due("promoted", x.total(10), 0);
        Due.due("dropped", x.total(11), 1);
        Due.due("history", x.total(12), 3);
        x.type('x');
        Due.due("text", x.total(13), 1);
        x.setHand(0, 1, 4);
        x.setHand(0, 5, 3);
        x.setHand(1, 2, 2);
        Due.due("hand 0", x.total(2), 7);
        Due.due("hand 1", x.total(3), 3);
    }

    private static void promise20Checks() {
        FiveShogi x = Setup.of("R . . . k . . . . R . . . . . . . . . . K . . . .", 1, "");
        Due.due("check", x.total(4), 1);
        Due.due("mated but for a taking", x.total(5), 0);
        Due.due("the king takes", x.playAt(0), 409);
        x.put(14, 1);
        Due.due("mated", x.total(5), 1);
        Due.due("lost", x.total(6), 1);
        Due.due("no plays", x.total(7), 0);
        x.setHand(1, 1, 1);
        Due.due("a gold from the hand is no help behind the other rook", x.total(5), 1);
        x.takeOff(9);
        Due.due("a gold from the hand helps", x.total(5), 0);
        x.setSide(0);
        Due.due("the other side is not in check", x.total(4), 0);
        Due.due("nor mated", x.total(5), 0);
        Due.due("nor has it lost", x.total(6), 0);
        x = Setup.of("k . . . . . . G . . . R . . . . . . . . . . . . K", 1, "");
        Due.due("not in check", x.total(4), 0);
        Due.due("lost", x.total(6), 0);
        Due.due("one play", x.total(7), 1);
        x.put(15, 4);
        Due.due("in check", x.total(4), 1);
        x.takeOff(15);
        x.put(7, 6);
        x.put(10, 3);
        x.put(11, 9);
        Due.due("not in check", x.total(4), 0);
        Due.due("no plays", x.total(7), 0);
        Due.due("lost", x.total(6), 1);
        Due.due("not mated", x.total(5), 0);
        x.clearAll();
        Due.due("without men: no check", x.total(4), 0);
        Due.due("without men: not mated", x.total(5), 0);
        Due.due("without men: lost", x.total(6), 1);
        Due.due("without men: no plays", x.total(7), 0);
    }

    private static void promise20Refused() {
        FiveShogi x = new FiveShogi();
        Due.due("-1", x.total(-1), OUT_OF_RANGE);
        Due.due("14", x.total(14), OUT_OF_RANGE);
        Due.due("least", x.total(Integer.MIN_VALUE), OUT_OF_RANGE);
        Due.due("greatest", x.total(Integer.MAX_VALUE), OUT_OF_RANGE);
    }

    private static void promise21Worth() {
        FiveShogi x = new FiveShogi();
        Due.due("at first", x.worth(0), 0);
        Due.due("at first", x.worth(1), 0);
        x.move(24, 9, false);
        Due.due("a pawn taken", x.worth(0), 1 + 2);
        Due.due("a pawn taken", x.worth(1), -3);
        Due.due("side -1", x.worth(-1), UNKNOWN);
        Due.due("side 2", x.worth(2), UNKNOWN);
    }

    private static void promise21EveryKind() {
        int[] worths = {0, 6, 5, 8, 10, 1, 6, 11, 13, 4};
        for (int man = 0; man < 20; man++) {
            FiveShogi x = new FiveShogi();
            x.clearAll();
            x.put(12, man);
            Due.due("worth of the man " + man, x.worth(man / 10), worths[man % 10]);
            Due.due("worth for the other side", x.worth(1 - man / 10), -worths[man % 10]);
        }
        for (int kind = 1; kind <= 5; kind++) {
            FiveShogi x = new FiveShogi();
            x.clearAll();
            x.setHand(1, kind, 3);
            Due.due("worth of three in the hand", x.worth(1), 3 * (worths[kind] + 1));
            Due.due("worth for the other side", x.worth(0), -3 * (worths[kind] + 1));
        }
    }
}
