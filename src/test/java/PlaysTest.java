/** Promises 2 (move), 3 (drop), 4 (make), 22 (moveReason) and 23 (dropReason). */
public final class PlaysTest {
    private static final int UNKNOWN = -1001;
    private static final int NOT_POSSIBLE = -1004;

    public static void main(String[] args) {
        promise2Move();
        promise2MovesOfTheSide1();
        promise2TakenMenComePlainIntoTheHand();
        promise2RefusedMovesChangeNothing();
        promise3Drop();
        promise3RefusedDropsChangeNothing();
        promise4Make();
        promise4NumbersThatAreNoPlays();
        promise22Unknown();
        promise22ReasonsInTheirOrder();
        promise22Promotions();
        promise22PromotionsOfTheSide1();
        promise22OwnKing();
        promise22WithoutKings();
        promise23Unknown();
        promise23ReasonsInTheirOrder();
        promise23PawnsOfTheSide1();
        promise23OwnKing();
        promise23MateByAPawn();
        promise23MateByAPawnOfTheSide1();
        promise23TheOtherSideWasInCheckAlready();
        Due.end();
    }

    private static void promise2Move() {
        FiveShogi x = new FiveShogi();
        Due.due("a move to an empty square", x.move(15, 10, false), 99);
        Due.due("the square left", x.man(15), -1005);
        Due.due("the square entered", x.man(10), 5);
        Due.due("the side to play", x.total(0), 1);
        Due.due("plays", x.total(8), 1);
        Due.due("taken", x.total(9), 0);
        Due.due("promoted", x.total(10), 0);
        Due.due("dropped", x.total(11), 0);
        Due.due("history", x.total(12), 1);
        Due.due("a move of the side 1", x.move(0, 10, false), 5);
        Due.due("taken", x.total(9), 1);
        Due.due("its hand", x.hand(1, 5), 1);
        Due.due("the other hand", x.total(2), 0);
        Due.due("plays", x.total(8), 2);
        Due.due("history", x.total(12), 2);
    }

    private static void promise2MovesOfTheSide1() {
        FiveShogi x = Setup.of(
                "K . . . . "
                + ". . . . . "
                + ". . . . . "
                + ". p . b . "
                + "S . . . k", 1, "");
        Due.due("a pawn of the side 1 goes to greater rows", x.move(16, 21, true), 99);
        Due.due("it is promoted", x.man(21), 19);
        Due.due("promoted", x.total(10), 1);
        x.setSide(1);
        Due.due("a bishop", x.move(18, 22, false), 99);
        Due.due("it is not promoted", x.man(22), 13);
        Due.due("promoted", x.total(10), 1);
        x.setSide(1);
        Due.due("from the last row", x.move(22, 16, true), 99);
        Due.due("it is promoted", x.man(16), 17);
        Due.due("promoted", x.total(10), 2);
        x.setSide(1);
        Due.due("a promoted pawn takes to the side", x.move(21, 20, false), 2);
        Due.due("a promoted man stays so", x.man(20), 19);
        Due.due("promoted", x.total(10), 2);
    }

    private static void promise2TakenMenComePlainIntoTheHand() {
        String[] words = {"g", "s", "b", "r", "p", "+s", "+b", "+r", "+p"};
        int[] plain = {1, 2, 3, 4, 5, 2, 3, 4, 5};
        for (int i = 0; i < words.length; i++) {
            FiveShogi x = Setup.of(
                    "K . . . . . . . . . . . " + words[i] + " . . . . R . . . . . . k", 0, "");
            Due.due("taking " + words[i], x.move(17, 12, false), Setup.man(words[i]));
            Due.due("hand with " + words[i], x.hand(0, plain[i]), 1);
            Due.due("hand in all", x.total(2), 1);
            Due.due("other hand", x.total(3), 0);
            Due.due("men", x.total(1), 3);
        }
        FiveShogi x = Setup.of("k . . . . . . g . . . . +R . . . . . . . . . . . K", 1, "");
        x.setHand(1, 4, 4);
        Due.due("taking +R", x.move(7, 12, false), 8);
        Due.due("a hand can hold more than four by that", x.hand(1, 4), 5);
    }

    private static void promise2RefusedMovesChangeNothing() {
        FiveShogi x = new FiveShogi();
        Due.due("no square", x.move(-1, 10, false), UNKNOWN);
        Due.due("no square", x.move(25, 10, false), UNKNOWN);
        Due.due("no square", x.move(15, -1, false), UNKNOWN);
        Due.due("no square", x.move(15, 25, false), UNKNOWN);
        Due.due("unknown before not possible", x.move(12, 25, false), UNKNOWN);
        Due.due("empty", x.move(12, 7, false), NOT_POSSIBLE);
        Due.due("other side", x.move(9, 14, false), NOT_POSSIBLE);
        Due.due("not attacked", x.move(15, 5, false), NOT_POSSIBLE);
        Due.due("own man", x.move(20, 15, false), NOT_POSSIBLE);
        Due.due("no promotion", x.move(15, 10, true), NOT_POSSIBLE);
        Due.due("side to play", x.total(0), 0);
        Due.due("plays", x.total(8), 0);
        Due.due("history", x.total(12), 0);
        Due.due("man", x.man(15), 5);
    }

    private static void promise3Drop() {
        FiveShogi x = Setup.of("k . . . . . . . . . . . . . . . . . . . . . . . K", 0, "GGSBRPPgp");
        Due.due("one gold left", x.drop(1, 12), 1);
        Due.due("the man", x.man(12), 1);
        Due.due("the hand", x.hand(0, 1), 1);
        Due.due("the other hand", x.hand(1, 1), 1);
        Due.due("the side to play", x.total(0), 1);
        Due.due("plays", x.total(8), 1);
        Due.due("dropped", x.total(11), 1);
        Due.due("taken", x.total(9), 0);
        Due.due("promoted", x.total(10), 0);
        Due.due("no pawn left", x.drop(5, 15), 0);
        Due.due("a pawn of the side 1", x.man(15), 15);
        Due.due("a rook on the last row stays plain", x.drop(4, 3), 0);
        Due.due("a rook", x.man(3), 4);
        Due.due("promoted", x.total(10), 0);
        Due.due("dropped", x.total(11), 3);
        Due.due("history", x.total(12), 4);
        Due.due("undo()", x.undo(), 3);
        Due.due("back in the hand", x.hand(0, 4), 1);
        Due.due("dropped", x.total(11), 2);
    }

    private static void promise3RefusedDropsChangeNothing() {
        FiveShogi x = Setup.of("k . . . . . . . . . . . . . . . . . . . . . . . K", 0, "P");
        int history = x.total(12);
        Due.due("kind 0", x.drop(0, 12), UNKNOWN);
        Due.due("kind 6", x.drop(6, 12), UNKNOWN);
        Due.due("kind -1", x.drop(-1, 12), UNKNOWN);
        Due.due("square -1", x.drop(5, -1), UNKNOWN);
        Due.due("square 25", x.drop(5, 25), UNKNOWN);
        Due.due("none in the hand", x.drop(4, 12), NOT_POSSIBLE);
        Due.due("not empty", x.drop(5, 24), NOT_POSSIBLE);
        Due.due("last row", x.drop(5, 2), NOT_POSSIBLE);
        Due.due("side to play", x.total(0), 0);
        Due.due("history", x.total(12), history);
        Due.due("hand", x.hand(0, 5), 1);
        Due.due("plays", x.total(8), 0);
    }

    private static void promise4Make() {
        FiveShogi x = Setup.of(
                "k . . . . "
                + ". . . . . "
                + ". . . . . "
                + ". S . . . "
                + ". . . R K", 0, "GP");
        Due.due("a move without check", x.make(100 * 16 + 11), 0);
        x.setSide(0);
        Due.due("a move with check", x.make(100 * 23 + 20), 1);
        Due.due("side to play", x.total(0), 1);
        x.undo();
        Due.due("a drop without check", x.make(20000 + 500 + 15), 0);
        x.setSide(0);
        Due.due("a drop with check", x.make(20000 + 100 + 5), 1);
        Due.due("hand", x.hand(0, 1), 0);
        Due.due("dropped", x.total(11), 2);
        x.undo();
        Due.due("a promotion with check", x.make(10000 + 100 * 23 + 3), 1);
        x.undo();
        x.takeOff(0);
        x.put(14, 10);
        Due.due("a promotion without check", x.make(10000 + 100 * 23 + 3), 0);
        Due.due("a promoted rook", x.man(3), 8);
        Due.due("promoted", x.total(10), 1);
    }

    private static void promise4NumbersThatAreNoPlays() {
        FiveShogi x = Setup.of("k . . . . . . . . . . P R S . . . . . . . . . . K", 0, "GSBRPgsbrp");
        int[] numbers = {
            -1, -1206, Integer.MIN_VALUE, Integer.MAX_VALUE, 99, 1225, 1230, 2425, 2510, 9999, 11225,
            12510, 19999, 20000, 20014, 20125, 20199, 20525, 20614, 20999, 30114, 40112, 21114,
            1100 + 6 + 10000, 20000 + 500 + 1, 20000 + 500 + 16, 20000 + 100 + 11, 12, 1212
        };
        int history = x.total(12);
        for (int number : numbers) {
            Due.due("make(" + number + ")", x.make(number), NOT_POSSIBLE);
        }
        Due.due("history", x.total(12), history);
        Due.due("side to play", x.total(0), 0);
        Due.due("a play all the same", x.make(1106), 0);
    }

    private static void promise22Unknown() {
        FiveShogi x = new FiveShogi();
        int[] none = {-1, 25, Integer.MIN_VALUE, Integer.MAX_VALUE};
        for (int square : none) {
            Due.due("from " + square, x.moveReason(square, 10, false), UNKNOWN);
            Due.due("to " + square, x.moveReason(15, square, true), UNKNOWN);
            Due.due("unknown before the reasons", x.moveReason(12, square, false), UNKNOWN);
        }
        Due.due("the first square", x.moveReason(0, 5, false), 1);
        Due.due("the last square", x.moveReason(24, 19, false), 0);
    }

    private static void promise22ReasonsInTheirOrder() {
        FiveShogi x = Setup.of(
                ". . . . k "
                + "P . . . . "
                + ". S . g . "
                + ". . . . . "
                + "K . . . R", 0, "");
        Due.due("1 empty", x.moveReason(10, 5, false), 1);
        Due.due("1 the other side's", x.moveReason(13, 18, false), 1);
        Due.due("1 before all others", x.moveReason(12, 20, true), 1);
        Due.due("2 a silver goes not to the side", x.moveReason(11, 10, false), 2);
        Due.due("2 nor straight back", x.moveReason(11, 16, false), 2);
        Due.due("2 its own square", x.moveReason(24, 24, false), 2);
        Due.due("2 before 3", x.moveReason(24, 5, false), 2);
        Due.due("2 before 4", x.moveReason(11, 10, true), 2);
        Due.due("3 its own man", x.moveReason(11, 5, false), 3);
        Due.due("3 the king of the other side", x.moveReason(24, 4, false), 3);
        Due.due("3 though it could be promoted", x.moveReason(24, 4, true), 3);
        Due.due("3 before 4", x.moveReason(11, 5, true), 3);
        Due.due("4 not the last row", x.moveReason(11, 6, true), 4);
        Due.due("4 a king", x.moveReason(20, 15, true), 4);
        Due.due("4 the other side's last row", x.moveReason(24, 23, true), 4);
        Due.due("5 a pawn", x.moveReason(5, 0, false), 5);
        Due.due("0 a pawn", x.moveReason(5, 0, true), 0);
        Due.due("0 a silver", x.moveReason(11, 6, false), 0);
        Due.due("0 a rook takes nothing", x.moveReason(24, 9, false), 0);
        Due.due("0 a king", x.moveReason(20, 21, false), 0);
        x.put(0, 12);
        Due.due("0 a pawn attacks straight", x.moveReason(5, 0, true), 0);
        Due.due("asking changes nothing", x.total(0), 0);
    }

    private static void promise22Promotions() {
        FiveShogi x = Setup.of(
                "S . . . k "
                + ". . G B . "
                + "+S . . . . "
                + ". . . . . "
                + "K . R . .", 0, "");
        Due.due("a silver from the last row", x.moveReason(0, 6, true), 0);
        Due.due("a silver from the last row, plain", x.moveReason(0, 6, false), 0);
        Due.due("a gold", x.moveReason(7, 1, true), 4);
        Due.due("a gold, plain", x.moveReason(7, 1, false), 0);
        Due.due("a bishop", x.moveReason(8, 2, true), 0);
        Due.due("a bishop, plain", x.moveReason(8, 2, false), 0);
        Due.due("a bishop, not to the last row", x.moveReason(8, 14, true), 4);
        Due.due("a rook within the other side's last row", x.moveReason(22, 23, true), 4);
        x.takeOff(7);
        Due.due("a rook", x.moveReason(22, 2, true), 0);
        Due.due("a rook, plain", x.moveReason(22, 2, false), 0);
        x.takeOff(0);
        x.put(0, 6);
        Due.due("a promoted silver", x.moveReason(0, 5, true), 4);
        x.put(0, 7);
        Due.due("a promoted bishop", x.moveReason(0, 12, true), 4);
        Due.due("a promoted bishop, plain", x.moveReason(0, 12, false), 0);
        x.put(0, 8);
        Due.due("a promoted rook", x.moveReason(0, 2, true), 4);
        x.put(0, 9);
        Due.due("a promoted pawn", x.moveReason(0, 1, true), 4);
        x.put(0, 4);
        Due.due("a rook within the last row", x.moveReason(0, 2, true), 0);
        Due.due("a rook from the last row", x.moveReason(0, 5, true), 0);
    }

    private static void promise22PromotionsOfTheSide1() {
        FiveShogi x = Setup.of(
                "r . . . k "
                + ". . . . . "
                + ". . . . . "
                + ". p . s . "
                + "K . . . .", 1, "");
        Due.due("a pawn has to be", x.moveReason(16, 21, false), 5);
        Due.due("a pawn", x.moveReason(16, 21, true), 0);
        Due.due("a silver", x.moveReason(18, 22, true), 0);
        Due.due("a silver, plain", x.moveReason(18, 22, false), 0);
        Due.due("a silver back", x.moveReason(18, 12, true), 4);
        Due.due("a rook within the row 0", x.moveReason(0, 2, true), 4);
        x.put(16, 12);
        x.put(21, 13);
        Due.due("a bishop from the row 4", x.moveReason(21, 17, true), 0);
    }

    private static void promise22OwnKing() {
        FiveShogi x = Setup.of(
                "r . . . k "
                + ". . . . . "
                + ". . . . . "
                + "G . s . . "
                + "K . . . .", 0, "");
        Due.due("along the line", x.moveReason(15, 10, false), 0);
        Due.due("out of the line", x.moveReason(15, 16, false), 6);
        Due.due("into an attack", x.moveReason(20, 21, false), 6);
        Due.due("to a free square", x.moveReason(20, 16, false), 0);
        Due.due("4 before 6", x.moveReason(15, 16, true), 4);
        x = Setup.of(
                ". . . . k "
                + ". . . . . "
                + ". . . . . "
                + ". . . . . "
                + "r . K G R", 0, "");
        Due.due("in check, another man", x.moveReason(23, 18, false), 6);
        Due.due("along the line of the rook", x.moveReason(22, 21, false), 6);
        Due.due("out of the line", x.moveReason(22, 17, false), 0);
        x.put(21, 11);
        Due.due("a king takes a man that is guarded", x.moveReason(22, 21, false), 6);
        x.takeOff(20);
        Due.due("a king takes a man that is not guarded", x.moveReason(22, 21, false), 0);
    }

    private static void promise22WithoutKings() {
        FiveShogi x = Setup.of(". . . . . P . . . . . . r . . . . S . . . . . . .", 0, "");
        Due.due("nothing attacks no king", x.moveReason(17, 12, false), 0);
        Due.due("5 without a king", x.moveReason(5, 0, false), 5);
        x.put(24, 0);
        Due.due("with a king that is not attacked", x.moveReason(17, 12, false), 0);
        x.put(10, 5);
        x.put(0, 5);
        Due.due("a pawn on its last row attacks nothing", x.moveReason(0, 5, true), 2);
    }

    private static void promise23Unknown() {
        FiveShogi x = new FiveShogi();
        Due.due("kind 0", x.dropReason(0, 12), UNKNOWN);
        Due.due("kind 6", x.dropReason(6, 12), UNKNOWN);
        Due.due("kind -1", x.dropReason(-1, 12), UNKNOWN);
        Due.due("square -1", x.dropReason(1, -1), UNKNOWN);
        Due.due("square 25", x.dropReason(5, 25), UNKNOWN);
        Due.due("greatest", x.dropReason(Integer.MAX_VALUE, Integer.MAX_VALUE), UNKNOWN);
        Due.due("least", x.dropReason(Integer.MIN_VALUE, Integer.MIN_VALUE), UNKNOWN);
    }

    private static void promise23ReasonsInTheirOrder() {
        FiveShogi x = Setup.of(
                "k . P . . "
                + ". . . . . "
                + ". P . p . "
                + ". . . . +P "
                + "K . . . .", 0, "PGsp");
        Due.due("1", x.dropReason(2, 12), 1);
        Due.due("1 before 2", x.dropReason(2, 11), 1);
        Due.due("2 its own man", x.dropReason(1, 11), 2);
        Due.due("2 another's man", x.dropReason(1, 13), 2);
        Due.due("2 before 3", x.dropReason(5, 2), 2);
        Due.due("2 before 4", x.dropReason(5, 11), 2);
        Due.due("3", x.dropReason(5, 3), 3);
        Due.due("3 before 4", x.dropReason(5, 1), 3);
        Due.due("4 behind the pawn", x.dropReason(5, 16), 4);
        Due.due("4 ahead of the pawn", x.dropReason(5, 6), 4);
        Due.due("4 a pawn on its last row", x.dropReason(5, 22), 4);
        Due.due("0 in a column with the other side's pawn", x.dropReason(5, 18), 0);
        Due.due("0 in a column with a promoted pawn", x.dropReason(5, 14), 0);
        Due.due("0 on the other side's last row", x.dropReason(5, 23), 0);
        Due.due("0 a gold on the last row", x.dropReason(1, 3), 0);
        Due.due("0 a gold in a column with a pawn", x.dropReason(1, 16), 0);
        Due.due("asking changes nothing", x.hand(0, 5), 1);
    }

    private static void promise23PawnsOfTheSide1() {
        FiveShogi x = Setup.of(
                "k . . . . "
                + ". . . . . "
                + ". P . p . "
                + ". . . . +p "
                + "K . . . .", 1, "p");
        Due.due("3", x.dropReason(5, 22), 3);
        Due.due("3 before 4", x.dropReason(5, 23), 3);
        Due.due("4", x.dropReason(5, 3), 4);
        Due.due("0 the row 0", x.dropReason(5, 2), 0);
        Due.due("0 the other side's pawn", x.dropReason(5, 6), 0);
        Due.due("0 a promoted pawn", x.dropReason(5, 9), 0);
    }

    private static void promise23OwnKing() {
        FiveShogi x = Setup.of(
                "r . . . k "
                + ". . . . . "
                + ". . . . . "
                + ". . P . . "
                + "K . . . .", 0, "GP");
        Due.due("5 not between", x.dropReason(1, 12), 5);
        Due.due("0 between", x.dropReason(1, 10), 0);
        Due.due("0 a pawn between", x.dropReason(5, 15), 0);
        Due.due("5 a pawn not between", x.dropReason(5, 6), 5);
        Due.due("4 before 5", x.dropReason(5, 12), 4);
        Due.due("3 before 5", x.dropReason(5, 1), 3);
        x.put(22, 14);
        Due.due("5 two men attack the king", x.dropReason(1, 10), 5);
        x.takeOff(20);
        Due.due("0 without a king", x.dropReason(1, 12), 0);
    }

    private static void promise23MateByAPawn() {
        String rest =
                ". . . G . "
                + "B . . . . "
                + "K . . . .";
        FiveShogi x = Setup.of(". . . . k . . . . . " + rest, 0, "PG");
        Due.due("6", x.dropReason(5, 9), 6);
        Due.due("0 a gold may mate", x.dropReason(1, 9), 0);
        Due.due("0 elsewhere", x.dropReason(5, 14), 0);
        Due.due("drop() of it", x.drop(5, 9), NOT_POSSIBLE);
        Due.due("make() of it", x.make(20509), NOT_POSSIBLE);
        x = Setup.of(". . . . k r . . . . " + rest, 0, "P");
        Due.due("0 the pawn can be taken", x.dropReason(5, 9), 0);
        x = Setup.of("R . . r k . . . . . . . . G . B . . . . K . . . .", 0, "P");
        Due.due("6 the man that could take it is held", x.dropReason(5, 9), 6);
        x = Setup.of(". . . . k . . . . . . . . G . . . . . . K . . . .", 0, "P");
        Due.due("0 the king can go", x.dropReason(5, 9), 0);
        x = Setup.of(". . . . k . . . . . . . . . . B . . . . K . . . .", 0, "P");
        Due.due("0 the king can take it", x.dropReason(5, 9), 0);
        x = Setup.of(". . . . k . . . . . . . . G . B . . . . . . r . K", 0, "P");
        Due.due("5 before 6", x.dropReason(5, 9), 5);
        x.takeOff(22);
        Due.due("6 when the check is gone", x.dropReason(5, 9), 6);
        x = Setup.of(". . . p k . . . p . . . . G . B . . . . K . . . .", 0, "P");
        Due.due("a king shut in by its own men", x.dropReason(5, 9), 6);
    }

    private static void promise23MateByAPawnOfTheSide1() {
        FiveShogi x = Setup.of(
                ". . . . k "
                + ". . . . b "
                + ". g . . . "
                + ". . . . . "
                + "K . . . .", 1, "p");
        Due.due("6", x.dropReason(5, 15), 6);
        x.put(19, 4);
        Due.due("0 a rook can take it", x.dropReason(5, 15), 0);
    }

    /** The words speak of the position behind the drop, whoever attacks the king there. */
    private static void promise23TheOtherSideWasInCheckAlready() {
        FiveShogi x = Setup.of(
                "k . . . R "
                + ". . . . R "
                + ". . . . . "
                + ". . . . . "
                + "K . . . .", 0, "P");
        Due.due("6 far away", x.dropReason(5, 13), 6);
        Due.due("0 the pawn shuts the line", x.dropReason(5, 8), 0);
        x.takeOff(0);
        Due.due("0 without a king", x.dropReason(5, 13), 0);
    }
}
