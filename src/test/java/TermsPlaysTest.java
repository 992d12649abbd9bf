/** Of "Terms", PLAYS: the boundary cases of each sentence. */
public final class TermsPlaysTest {
    private static final int UNKNOWN = -1001;
    private static final int NOT_POSSIBLE = -1004;
    private static final int NONE = -1005;
    private static final int ALL = (1 << 25) - 1;

    public static void main(String[] args) {
        ontoNoManOfItsOwn();
        ontoEmptySquaresAlone();
        aFullBoardLeavesNoDrops();
        takenMenComeIntoTheHandThatTakes();
        takenMenMakeAnyNumber();
        aKingIsNeverTaken();
        promotionsByKindAndRow();
        promotedMenOnTheBoard();
        neverDroppedPromoted();
        pawnsNotOntoTheLastRowNorIntoAColumn();
        pawnsWithAPawnInEachColumn();
        ownKingAttackedByEachMan();
        ownKingBehindALine();
        withoutAKingNothingAttacksIt();
        checkByEachMan();
        lostAndMated();
        lostForTheOnlyDropWouldMate();
        pawnsMayNotMate();
        pawnsMayNotMateFromTheCorners();
        pawnsMayNotMateWithRepliesByDrops();
        numbersOfPlays();
        numbersThatTellNothing();
        Due.end();
    }

    /** A square as the side 1 sees it. */
    private static int seen(int side, int square) {
        return side == 0 ? square : 24 - square;
    }

    private static FiveShogi empty(int side) {
        FiveShogi x = new FiveShogi();
        x.clearAll();
        if (side == 1) {
            x.setSide(1);
        }
        return x;
    }

    /** "... moves one of its men to a square that it attacks, and on which no man of its own is". */
    private static void ontoNoManOfItsOwn() {
        for (int side = 0; side < 2; side++) {
            for (int there = 0; there < 20; there++) {
                FiveShogi x = empty(side);
                x.put(12, 10 * side + 4);
                x.put(14, there);
                int due = there / 10 == side || there % 10 == 0 ? 3 : 0;
                Due.due("onto the man " + there, x.moveReason(12, 14, false), due);
                Due.due("move()", x.move(12, 14, false), due == 0 ? there : NOT_POSSIBLE);
            }
        }
    }

    /** "... or drops a man from its hand onto an empty square." */
    private static void ontoEmptySquaresAlone() {
        for (int side = 0; side < 2; side++) {
            for (int there = 0; there < 20; there++) {
                FiveShogi x = empty(side);
                x.setHand(side, 1, 1);
                x.put(12, there);
                Due.due("onto the man " + there, x.dropReason(1, 12), 2);
                Due.due("drop()", x.drop(1, 12), NOT_POSSIBLE);
                Due.due("drops()", x.drops(1), ALL & ~(1 << 12));
                x.takeOff(12);
                Due.due("onto no man", x.drop(1, 12), 0);
            }
        }
    }

    /** "... onto an empty square": a full board has none, and then one. */
    private static void aFullBoardLeavesNoDrops() {
        FiveShogi x = empty(0);
        for (int square = 0; square < 25; square++) {
            x.put(square, square < 5 ? 16 : 6);
        }
        for (int kind = 1; kind <= 5; kind++) {
            x.setHand(0, kind, 4);
            Due.due("drops(" + kind + ")", x.drops(kind), 0);
            Due.due("dropReason()", x.dropReason(kind, 12), 2);
        }
        Due.due("takings alone", x.total(7), 5 + 4 + 4);
        x.takeOff(24);
        for (int kind = 1; kind <= 5; kind++) {
            Due.due("drops(" + kind + ") onto the last square", x.drops(kind), 1 << 24);
        }
        x.put(24, 6);
        x.takeOff(0);
        for (int kind = 1; kind <= 5; kind++) {
            Due.due("drops(" + kind + ") onto the first square", x.drops(kind), kind == 5 ? 0 : 1);
        }
    }

    /** "... it comes into the hand of the side that takes it ..., not promoted, and of this side." */
    private static void takenMenComeIntoTheHandThatTakes() {
        int[] plain = {0, 1, 2, 3, 4, 5, 2, 3, 4, 5};
        for (int side = 0; side < 2; side++) {
            for (int kind = 1; kind <= 9; kind++) {
                FiveShogi x = empty(side);
                x.put(12, 10 * side + 4);
                x.put(7, 10 * (1 - side) + kind);
                x.move(12, 7, false);
                for (int held = 1; held <= 5; held++) {
                    Due.due("the hand that takes", x.hand(side, held), held == plain[kind] ? 1 : 0);
                    Due.due("the other hand", x.hand(1 - side, held), 0);
                }
                x.setSide(side);
                Due.due("it is dropped again", x.drop(plain[kind], 22), plain[kind] == 5 && side == 1 ? NOT_POSSIBLE : 0);
                Due.due("of this side", x.man(22),
                        plain[kind] == 5 && side == 1 ? NONE : 10 * side + plain[kind]);
            }
        }
    }

    /** "(which can have any number of men by that)": beyond the 4 of setHand(), of each kind. */
    private static void takenMenMakeAnyNumber() {
        for (int side = 0; side < 2; side++) {
            for (int kind = 1; kind <= 9; kind++) {
                int plain = kind > 5 ? kind - 4 : kind;
                FiveShogi x = empty(side);
                x.put(12, 10 * side);
                x.setHand(side, plain, 4);
                int from = 12;
                for (int many = 5; many <= 9; many++) {
                    int to = from == 12 ? 11 : 12;
                    x.put(to, 10 * (1 - side) + kind);
                    x.move(from, to, false);
                    x.setSide(side);
                    Due.due("hand()", x.hand(side, plain), many);
                    Due.due("total()", x.total(2 + side), many);
                    from = to;
                }
                Due.due("drop() leaves more than four", x.drop(plain, 7), 8);
            }
        }
    }

    /** "(A king is never taken, see below.)": by no man, told in no way. */
    private static void aKingIsNeverTaken() {
        for (int side = 0; side < 2; side++) {
            for (int kind = 0; kind <= 9; kind++) {
                FiveShogi x = empty(side);
                int from = seen(side, kind == 3 ? 18 : 17);
                x.put(from, 10 * side + kind);
                x.put(12, 10 * (1 - side));
                Due.due("attackers()", x.attackers(side, 12), 1);
                Due.due("moveReason()", x.moveReason(from, 12, false), 3);
                Due.due("moveReason(), promoted", x.moveReason(from, 12, true), 3);
                Due.due("move()", x.move(from, 12, false), NOT_POSSIBLE);
                Due.due("make()", x.make(100 * from + 12), NOT_POSSIBLE);
                Setup.type(x, "" + from / 5 + from % 5 + "-22");
                Due.due("perform()", x.perform(), NOT_POSSIBLE);
                for (int rank = 0; rank < x.total(7); rank++) {
                    Due.due("playAt()", x.playAt(rank) % 100 == 12 ? 1 : 0, 0);
                }
            }
        }
        FiveShogi x = Setup.of(". . k . . . . P . . . . . . . . . . . . . . . . .", 0, "");
        Due.due("nor on the last row, with a promotion", x.moveReason(7, 2, true), 3);
    }

    /** The reason why a man alone may not move so, as the side 0 sees the squares. */
    private static int reason(int side, int kind, int from, int to, boolean promotes) {
        FiveShogi x = empty(side);
        x.put(seen(side, from), 10 * side + kind);
        return x.moveReason(seen(side, from), seen(side, to), promotes);
    }

    private static void mayPromote(int kind, int from, int to, int promoted, int plain) {
        for (int side = 0; side < 2; side++) {
            String move = "side " + side + ", kind " + kind + ", " + from + " to " + to;
            Due.due(move + " promoted", reason(side, kind, from, to, true), promoted);
            Due.due(move, reason(side, kind, from, to, false), plain);
        }
    }

    /** "A silver, a bishop, a rook or a pawn that moves to the last row of its side, or from there, ..." */
    private static void promotionsByKindAndRow() {
        mayPromote(2, 7, 2, 0, 0);
        mayPromote(2, 5, 1, 0, 0);
        mayPromote(2, 0, 6, 0, 0);
        mayPromote(2, 4, 8, 0, 0);
        mayPromote(2, 12, 7, 4, 0);
        mayPromote(2, 6, 12, 4, 0);
        mayPromote(2, 22, 17, 4, 0);
        mayPromote(2, 16, 20, 4, 0);
        mayPromote(3, 20, 4, 0, 0);
        mayPromote(3, 4, 20, 0, 0);
        mayPromote(3, 0, 24, 0, 0);
        mayPromote(3, 6, 2, 0, 0);
        mayPromote(3, 20, 8, 4, 0);
        mayPromote(3, 24, 6, 4, 0);
        mayPromote(4, 24, 4, 0, 0);
        mayPromote(4, 0, 20, 0, 0);
        mayPromote(4, 0, 4, 0, 0);
        mayPromote(4, 3, 2, 0, 0);
        mayPromote(4, 24, 9, 4, 0);
        mayPromote(4, 5, 9, 4, 0);
        mayPromote(4, 20, 24, 4, 0);
        mayPromote(5, 5, 0, 0, 5);
        mayPromote(5, 9, 4, 0, 5);
        mayPromote(5, 10, 5, 4, 0);
        mayPromote(5, 24, 19, 4, 0);
        for (int kind : new int[] {0, 1, 6, 7, 8, 9}) {
            mayPromote(kind, 7, 2, 4, 0);
            mayPromote(kind, 2, 7, 4, 0);
            mayPromote(kind, 2, 1, 4, 0);
        }
    }

    /** "... can be promoted by that": what then stands there, and what total(10) counts. */
    private static void promotedMenOnTheBoard() {
        for (int side = 0; side < 2; side++) {
            for (int kind = 2; kind <= 5; kind++) {
                int from = seen(side, kind == 3 ? 6 : 7);
                int to = seen(side, 2);
                FiveShogi x = empty(side);
                x.put(from, 10 * side + kind);
                Due.due("promoted", x.make(10000 + 100 * from + to), 0);
                Due.due("the man", x.man(to), 10 * side + kind + 4);
                Due.due("promoted so far", x.total(10), 1);
                x.undo();
                Due.due("not promoted", x.make(100 * from + to), kind == 5 ? NOT_POSSIBLE : 0);
                Due.due("the man", x.man(to), kind == 5 ? NONE : 10 * side + kind);
                Due.due("promoted so far", x.total(10), 0);
            }
        }
    }

    /** "A man is never dropped promoted." */
    private static void neverDroppedPromoted() {
        for (int kind = 6; kind <= 9; kind++) {
            FiveShogi x = empty(0);
            x.setHand(0, kind - 4, 1);
            Due.due("drop()", x.drop(kind, 12), UNKNOWN);
            Due.due("dropReason()", x.dropReason(kind, 12), UNKNOWN);
            Due.due("drops()", x.drops(kind), UNKNOWN);
            Due.due("hand()", x.hand(0, kind), UNKNOWN);
            Due.due("setHand()", x.setHand(0, kind, 1), UNKNOWN);
            Due.due("make() by its kind", x.make(20000 + 100 * kind + 12), NOT_POSSIBLE);
            Due.due("make() with 10000 more", x.make(30000 + 100 * (kind - 4) + 12), NOT_POSSIBLE);
            Setup.type(x, "gsbrp".charAt(kind - 5) + "*22+");
            Due.due("perform()", x.perform(), -2004);
            if (kind < 9) {
                Due.due("drop() onto the last row", x.drop(kind - 4, 2), 0);
                Due.due("not promoted", x.man(2), kind - 4);
                Due.due("promoted so far", x.total(10), 0);
            }
        }
    }

    /** "A pawn may not be dropped onto the last row of its side, nor into a column with a pawn of its side ..." */
    private static void pawnsNotOntoTheLastRowNorIntoAColumn() {
        for (int side = 0; side < 2; side++) {
            int open = side == 0 ? ALL & ~0b11111 : ALL >> 5;
            for (int square = 0; square < 25; square++) {
                int column = 0b00001_00001_00001_00001_00001 << square % 5;
                for (int man = 0; man < 20; man++) {
                    FiveShogi x = empty(side);
                    x.setHand(side, 5, 1);
                    x.setHand(side, 2, 1);
                    x.put(square, man);
                    String where = "side " + side + " with the man " + man + " on " + square;
                    Due.due("pawns of " + where, x.drops(5),
                            man == 10 * side + 5 ? open & ~column : open & ~(1 << square));
                    Due.due("silvers of " + where, x.drops(2), ALL & ~(1 << square));
                }
            }
        }
    }

    /** "... nor into a column with a pawn of its side (not promoted)": in all columns but one, and in all. */
    private static void pawnsWithAPawnInEachColumn() {
        for (int side = 0; side < 2; side++) {
            int[] squares = {20, 1, 12, 8, 24};
            for (int square : squares) {
                FiveShogi x = empty(side);
                x.setHand(side, 5, 4);
                for (int other : squares) {
                    x.put(seen(side, other), 10 * side + 5);
                }
                Due.due("no column is left", x.drops(5), 0);
                x.put(seen(side, square), 10 * side + 9);
                int open = side == 0 ? ALL & ~0b11111 : ALL >> 5;
                int column = 0b00001_00001_00001_00001_00001 << seen(side, square) % 5;
                Due.due("the column of a pawn that is promoted", x.drops(5),
                        open & column & ~(1 << seen(side, square)));
                int to = Integer.numberOfTrailingZeros(x.drops(5));
                Due.due("a pawn goes there", x.drop(5, to), 3);
                x.setSide(side);
                Due.due("and no other one", x.drops(5), 0);
            }
        }
    }

    /** "A play is not allowed if a man of the other side attacks a king of the side that made it then." */
    private static void ownKingAttackedByEachMan() {
        int[] reasons = {6, 6, 6, 0, 6, 6, 6, 6, 6, 6};
        for (int side = 0; side < 2; side++) {
            for (int kind = 0; kind <= 9; kind++) {
                FiveShogi x = empty(side);
                x.put(seen(side, 22), 10 * side);
                x.put(seen(side, 12), 10 * (1 - side) + kind);
                Due.due("a king goes ahead of the kind " + kind,
                        x.moveReason(seen(side, 22), seen(side, 17), false), reasons[kind]);
                x.put(seen(side, 12), 10 * side + (kind == 0 ? 1 : kind));
                Due.due("ahead of its own man", x.moveReason(seen(side, 22), seen(side, 17), false), 0);
            }
            FiveShogi x = empty(side);
            x.put(seen(side, 22), 10 * side);
            x.put(seen(side, 13), 10 * (1 - side) + 3);
            Due.due("slantwise ahead of a bishop", x.moveReason(seen(side, 22), seen(side, 17), false), 6);
            x.put(seen(side, 17), 10 * (1 - side) + 5);
            Due.due("a guarded man is not taken by a king", x.moveReason(seen(side, 22), seen(side, 17), false), 6);
            x.takeOff(seen(side, 13));
            Due.due("one that is not guarded is", x.moveReason(seen(side, 22), seen(side, 17), false), 0);
        }
    }

    /** "A play is not allowed if a man of the other side attacks a king ... then": lines that open or stay. */
    private static void ownKingBehindALine() {
        FiveShogi x = Setup.of(". . . . . . . . . . r . K . . . . . . . . . . . .", 0, "GG");
        Due.due("a king goes on along the line", x.moveReason(12, 13, false), 6);
        Due.due("a king goes to the man", x.moveReason(12, 11, false), 6);
        Due.due("a king goes out of the line", x.moveReason(12, 8, false), 0);
        Due.due("a drop between", x.dropReason(1, 11), 0);
        Due.due("a drop behind the king", x.dropReason(1, 13), 5);
        Due.due("drops between alone", x.drops(1), Setup.bits(11));
        x.put(11, 14);
        Due.due("no square is between", x.drops(1), 0);
        Due.due("a king takes the guarded man", x.moveReason(12, 11, false), 6);
        x.takeOff(10);
        Due.due("a king takes the man", x.moveReason(12, 11, false), 0);
        x = Setup.of(". . . . . . . . . . . . . . . . . . . . K G . . r", 0, "");
        Due.due("a man that is held, along the row", x.moveReason(21, 22, false), 0);
        Due.due("a man that is held, out of the row", x.moveReason(21, 16, false), 6);
        x = Setup.of(". . . . b . . . . . . . . . . . B . . . K . . . .", 0, "");
        Due.due("a man that is held, along the slant", x.moveReason(16, 8, false), 0);
        Due.due("it takes at the end", x.moveReason(16, 4, true), 0);
        Due.due("out of the slant", x.moveReason(16, 22, false), 6);
    }

    /** "(A side has one king or none on the board; without one nothing attacks it.)" */
    private static void withoutAKingNothingAttacksIt() {
        for (int side = 0; side < 2; side++) {
            FiveShogi x = empty(side);
            x.put(seen(side, 21), 10 * side + 1);
            x.put(seen(side, 24), 10 * (1 - side) + 4);
            x.setHand(side, 1, 1);
            Due.due("any move", x.moveReason(seen(side, 21), seen(side, 16), false), 0);
            Due.due("any drop", x.drops(1), ALL & ~Setup.bits(seen(side, 21), seen(side, 24)));
            Due.due("no check", x.total(4), 0);
            x.put(seen(side, 20), 10 * side);
            Due.due("with a king: held", x.moveReason(seen(side, 21), seen(side, 16), false), 6);
            x.takeOff(seen(side, 21));
            Due.due("with a king: check", x.total(4), 1);
            x.takeOff(seen(side, 20));
            Due.due("without it: no check", x.total(4), 0);
        }
    }

    /** "A side is in check if a man of the other side attacks its king." */
    private static void checkByEachMan() {
        int[] checks = {1, 1, 1, 0, 1, 1, 1, 1, 1, 1};
        for (int side = 0; side < 2; side++) {
            for (int kind = 0; kind <= 9; kind++) {
                FiveShogi x = empty(side);
                x.put(seen(side, 17), 10 * side);
                x.put(seen(side, 12), 10 * (1 - side) + kind);
                Due.due("check by the kind " + kind, x.total(4), checks[kind]);
                x.setSide(1 - side);
                Due.due("of the other side by a king alone", x.total(4), kind == 0 ? 1 : 0);
                x.put(seen(side, 12), 10 * side + (kind == 0 ? 1 : kind));
                x.setSide(side);
                Due.due("by its own man", x.total(4), 0);
            }
        }
    }

    private static void ends(FiveShogi x, int check, int plays) {
        Due.due("in check", x.total(4), check);
        Due.due("mated", x.total(5), check == 1 && plays == 0 ? 1 : 0);
        Due.due("lost", x.total(6), plays == 0 ? 1 : 0);
        Due.due("plays", x.total(7), plays);
    }

    /** "A side that has no play that is allowed has lost; it is mated if it is in check, too." */
    private static void lostAndMated() {
        for (int side = 0; side < 2; side++) {
            int rook = 10 * (1 - side) + 4;
            FiveShogi x = empty(side);
            ends(x, 0, 0);
            x.put(seen(side, 24), 10 * side);
            ends(x, 0, 3);
            x.put(seen(side, 13), rook);
            ends(x, 0, 1);
            x.put(seen(side, 15), rook);
            ends(x, 0, 0);
            x.takeOff(seen(side, 15));
            x.put(seen(side, 4), rook);
            ends(x, 1, 0);
            x.setHand(side, 5, 1);
            ends(x, 1, 3);
            x.setHand(side, 5, 0);
            x.takeOff(seen(side, 13));
            ends(x, 1, 2);
            x.takeOff(seen(side, 24));
            ends(x, 0, 0);
        }
    }

    /** "A side that has no play that is allowed has lost": a drop that would mate is none. */
    private static void lostForTheOnlyDropWouldMate() {
        FiveShogi x = Setup.of(
                "P P P P k "
                + ". . . P . "
                + ". . . . K "
                + "r . . . p "
                + ". . . r p", 0, "P");
        Due.due("6", x.dropReason(5, 9), 6);
        ends(x, 0, 0);
        Due.due("playAt(0)", x.playAt(0), NONE);
        Due.due("drops(5)", x.drops(5), 0);
        Due.due("mate()", x.mate(), NONE);
        Due.due("tightest()", x.tightest(), NONE);
        x.setSide(1);
        Due.due("setSide()", x.setSide(0), 0);
        x.takeOff(8);
        ends(x, 0, 1);
        Due.due("a drop that is no mate", x.playAt(0), 20509);
        Due.due("make()", x.make(20509), 1);
        ends(x, 1, 1);
    }

    /** "A pawn may not be dropped if the other side would be mated by that." */
    private static void pawnsMayNotMate() {
        for (int side = 0; side < 2; side++) {
            int own = 10 * side;
            int other = 10 - own;
            FiveShogi x = empty(side);
            x.put(seen(side, 0), other);
            x.put(seen(side, 11), own + 4);
            x.setHand(side, 5, 1);
            int check = seen(side, 5);
            Due.due("the king takes the pawn", x.dropReason(5, check), 0);
            x.put(seen(side, 10), own + 1);
            Due.due("the pawn is guarded", x.dropReason(5, check), 6);
            Due.due("drop()", x.drop(5, check), NOT_POSSIBLE);
            Due.due("make()", x.make(20500 + check), NOT_POSSIBLE);
            Due.due("drops()", x.drops(5) >> check & 1, 0);
            x.put(seen(side, 9), other + 4);
            Due.due("a rook takes the pawn", x.dropReason(5, check), 0);
            x.put(seen(side, 9), other + 5);
            Due.due("a pawn elsewhere does not", x.dropReason(5, check), 6);
            x.takeOff(seen(side, 11));
            Due.due("the king goes away", x.dropReason(5, check), 0);
            x.put(seen(side, 11), own + 4);
            x.put(seen(side, 5), own + 5);
            x.setSide(1 - side);
            Due.due("the same position is a mate", x.total(5), 1);
            x.undo();
            x.undo();
            x.takeOff(seen(side, 0));
            Due.due("no king, no mate", x.dropReason(5, check), 0);
        }
        FiveShogi x = Setup.of("k . . . . . . . . . . R . . . . . . . . . . . . .", 0, "P");
        Due.due("no play without a check is no mate", x.drop(5, 10), 0);
        ends(x, 0, 0);
    }

    /** "A pawn may not be dropped if the other side would be mated by that": on the first and the last square. */
    private static void pawnsMayNotMateFromTheCorners() {
        int[] corners = {0, 4, 20, 24};
        for (int corner : corners) {
            int side = corner < 5 ? 1 : 0;
            int inward = side == 1 ? 5 : -5;
            int aside = corner % 5 == 0 ? 1 : -1;
            FiveShogi x = empty(side);
            x.setHand(side, 5, 1);
            x.put(corner + inward, 10 * (1 - side));
            x.put(corner + 3 * aside, 10 * side + 4);
            x.put(corner + aside + 4 * inward, 10 * side + 4);
            x.put(corner + 4 * aside + 2 * inward, 10 * side + 4);
            Due.due("a mate from " + corner, x.dropReason(5, corner), 6);
            Due.due("drops(5) with " + corner, x.drops(5) >> corner & 1, 0);
            Due.due("make()", x.make(20500 + corner), NOT_POSSIBLE);
            x.takeOff(corner + 4 * aside + 2 * inward);
            Due.due("no mate from " + corner, x.dropReason(5, corner), 0);
            Due.due("make()", x.make(20500 + corner), 1);
        }
    }

    /** "(For this the other side's own drops of pawns are looked at without this rule.)" */
    private static void pawnsMayNotMateWithRepliesByDrops() {
        FiveShogi x = Setup.of(
                "k . . . R "
                + ". . . . R "
                + ". . . . . "
                + ". . . . . "
                + "K . . . .", 0, "Pp");
        Due.due("the other side can drop a pawn between", x.dropReason(5, 13), 0);
        x.put(16, 15);
        x.put(17, 15);
        Due.due("on one square alone", x.dropReason(5, 13), 0);
        x.put(18, 15);
        Due.due("on none, for its own pawns", x.dropReason(5, 12), 6);
        x.put(18, 19);
        Due.due("a promoted pawn is not in its way", x.dropReason(5, 12), 0);
        x.setHand(1, 5, 0);
        Due.due("without a pawn in the hand", x.dropReason(5, 12), 6);
        x.setHand(1, 4, 1);
        Due.due("with a rook in the hand", x.dropReason(5, 12), 0);
    }

    /** "A move is told by 100 times the square ...": the least and the greatest numbers of each sort. */
    private static void numbersOfPlays() {
        FiveShogi x = empty(0);
        x.put(0, 4);
        Due.due("1", x.playAt(0), 1);
        Due.due("make(1)", x.make(1), 0);
        x.undo();
        Due.due("the greatest with a rook on 0", x.playAt(x.total(7) - 1), 10020);
        Due.due("make(10001)", x.make(10001), 0);
        Due.due("the man", x.man(1), 8);
        x = empty(1);
        x.put(24, 14);
        Due.due("2404", x.playAt(0), 2404);
        Due.due("make(2423)", x.make(2423), 0);
        x.undo();
        Due.due("the greatest move", x.playAt(x.total(7) - 1), 12423);
        Due.due("make(12423)", x.make(12423), 0);
        Due.due("the man", x.man(23), 18);
        x = empty(0);
        x.setHand(0, 1, 1);
        Due.due("20100", x.playAt(0), 20100);
        Due.due("make(20100)", x.make(20100), 0);
        Due.due("the man", x.man(0), 1);
        x = empty(0);
        x.setHand(0, 5, 1);
        Due.due("the greatest drop", x.playAt(x.total(7) - 1), 20524);
        Due.due("make(20524)", x.make(20524), 0);
        Due.due("the man", x.man(24), 5);
    }

    /** "A move is told by 100 times the square ... A drop is told by 20000 plus ...": just outside. */
    private static void numbersThatTellNothing() {
        FiveShogi x = Setup.of("R . . . . . . . . . . . . . . . . . . . . . . . R", 0, "GP");
        String before = Seen.of(x);
        int[] numbers = {
            0, -1, -100, -2423, -10001, -20100, 24, 25, 99, 2424, 2425, 2499, 2500, 2524, 9999,
            10000, 10024, 10025, 12424, 12425, 12500, 19999, 20000, 20099, 20124, 20125, 20199,
            20525, 20599, 20600, 20612, 20999, 21000, 29999, 30001, 30100, 30112, 40001, 40112
        };
        for (int number : numbers) {
            Due.due("make(" + number + ")", x.make(number), NOT_POSSIBLE);
        }
        Due.due("a wrap-around", x.make(Integer.MIN_VALUE), NOT_POSSIBLE);
        Due.due("a wrap-around", x.make(Integer.MAX_VALUE), NOT_POSSIBLE);
        Seen.same("make()", before, x);
        Due.due("each of them changes nothing", x.make(20112), 0);
    }
}
