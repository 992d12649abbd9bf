/** Promises 24 to 27 (playAt, drops, mate, tightest): the boundary cases of each sentence. */
public final class SearchEdgesTest {
    private static final int UNKNOWN = -1001;
    private static final int OUT_OF_RANGE = -1002;
    private static final int NOT_POSSIBLE = -1004;
    private static final int NONE = -1005;
    private static final int ALL = (1 << 25) - 1;
    private static final String EMPTY = ". . . . . . . . . . . . . . . . . . . . . . . . .";

    public static void main(String[] args) {
        promise24EachRank();
        promise24OnePlay();
        promise24NoPlays();
        promise24AllDrops();
        promise24VeryMany();
        promise24OutOfRange();
        promise25EachKindOnAnEmptyBoard();
        promise25InCheck();
        promise25OfTheSideToPlay();
        promise25Unknown();
        promise26TheLeastOfSeveral();
        promise26OnlyWithAPromotion();
        promise26ByALineThatOpens();
        promise26NoneIfThereIsNone();
        promise26TheSideToPlayInCheck();
        promise27FewestBeforeWorth();
        promise27GreatestWorthBeforeNumber();
        promise27LeastNumber();
        promise27NoPlaysWithoutACheck();
        promise27WorthBelow0();
        promise27Drops();
        promise27OneOrNone();
        promise27OfTheSide1();
        searchesAreNoChanges();
        Due.end();
    }

    /** "0 for the one with the least number, and so on": each rank up to the last one, and one more. */
    private static void promise24EachRank() {
        String[] boards = {
            "r b s g k . . . . p . . . . . P . . . . K G S B R",
            "k . . . . P S B R . . . . . . . . . . . . . . . K",
            "R S . B . . . . . . k . . . . . . . . . . . K . .",
            ". . . . . . . . . . . . +R . . . . . . . . . . . ."
        };
        for (String board : boards) {
            for (int side = 0; side < 2; side++) {
                FiveShogi x = Setup.of(board, side, board.equals(boards[1]) ? "GPsp" : "");
                int plays = x.total(7);
                int last = -1;
                for (int rank = 0; rank < plays; rank++) {
                    int play = x.playAt(rank);
                    Due.due("playAt(" + rank + ") is greater than " + last, play > last ? 1 : 0, 1);
                    Due.due("make(" + play + ")", x.make(play) >= 0 ? 1 : 0, 1);
                    x.undo();
                    last = play;
                }
                Due.due("one more", x.playAt(plays), NONE);
                Due.due("many more", x.playAt(Integer.MAX_VALUE), NONE);
            }
        }
    }

    /** "0 for the one with the least number": the only one. */
    private static void promise24OnePlay() {
        FiveShogi x = Setup.of(". . . . . P . . . . . . . . . . . . . . . . . . .", 0, "");
        Due.due("playAt(0)", x.playAt(0), 10500);
        Due.due("playAt(1)", x.playAt(1), NONE);
        x = Setup.of("k . . . . . . . . . . R . . . . . . . . . . . . K", 1, "");
        Due.due("playAt(0)", x.playAt(0), 5);
        Due.due("playAt(1)", x.playAt(1), NONE);
    }

    /** "NONE if there are not so many": none at all. */
    private static void promise24NoPlays() {
        FiveShogi x = Setup.of(EMPTY, 0, "");
        Due.due("playAt(0)", x.playAt(0), NONE);
        Due.due("playAt(1)", x.playAt(1), NONE);
        Due.due("playAt(-1)", x.playAt(-1), OUT_OF_RANGE);
        x = Setup.of("k . . . . . . . . . . R . . . . . . . . R . . . K", 1, "");
        Due.due("playAt(0) of a side that is mated", x.playAt(0), NONE);
        x = Setup.of("P P P P P . . . . . . . . . . . . . . . . . . . .", 0, "");
        Due.due("playAt(0) with pawns on the last row", x.playAt(0), NONE);
    }

    /** "Returns a play that is allowed": all drops on an empty board, 120 of them. */
    private static void promise24AllDrops() {
        for (int side = 0; side < 2; side++) {
            FiveShogi x = Setup.of(EMPTY, side, "GSBRPgsbrp");
            int rank = 0;
            for (int kind = 1; kind <= 5; kind++) {
                for (int square = 0; square < 25; square++) {
                    if (kind == 5 && square / 5 == 4 * side) {
                        continue;
                    }
                    Due.due("playAt(" + rank + ")", x.playAt(rank), 20000 + 100 * kind + square);
                    rank++;
                }
            }
            Due.due("playAt(120)", x.playAt(120), NONE);
            Due.due("total(7)", x.total(7), 120);
        }
    }

    /** "NONE if there are not so many": 160 plays, as many as a search for such positions came upon. */
    private static void promise24VeryMany() {
        int[] squares = {0, 4, 7, 13, 16, 23};
        int[] men = {4, 4, 8, 8, 8, 8};
        FiveShogi x = new FiveShogi();
        Reference y = new Reference();
        x.clearAll();
        y.clearAll();
        for (int i = 0; i < squares.length; i++) {
            x.put(squares[i], men[i]);
            y.put(squares[i], men[i]);
        }
        for (int kind = 1; kind <= 5; kind++) {
            x.setHand(0, kind, 1);
            y.setHand(0, kind, 1);
        }
        Due.due("total(7)", x.total(7), 160);
        for (int rank = 0; rank <= 160; rank++) {
            Due.due("playAt(" + rank + ")", x.playAt(rank), y.playAt(rank));
        }
        Due.due("playAt(160)", x.playAt(160), NONE);
    }

    /** "OUT_OF_RANGE if rank is negative": just below 0, and far below. */
    private static void promise24OutOfRange() {
        FiveShogi x = new FiveShogi();
        for (int rank : new int[] {-1, -2, -14, -256, Integer.MIN_VALUE, Integer.MIN_VALUE + 1}) {
            Due.due("playAt(" + rank + ")", x.playAt(rank), OUT_OF_RANGE);
        }
        for (int rank : new int[] {14, 15, 100, 256, 1 << 16, Integer.MAX_VALUE - 1, Integer.MAX_VALUE}) {
            Due.due("playAt(" + rank + ")", x.playAt(rank), NONE);
        }
        Due.due("playAt(0)", x.playAt(0), 1510);
        Due.due("playAt(13)", x.playAt(13), 2419);
    }

    /** "Returns the squares, as bits": all, all but the last row, none. */
    private static void promise25EachKindOnAnEmptyBoard() {
        for (int side = 0; side < 2; side++) {
            for (int kind = 1; kind <= 5; kind++) {
                FiveShogi x = Setup.of(EMPTY, side, "");
                x.setHand(side, kind, 1);
                int pawns = side == 0 ? ALL & ~0b11111 : ALL >> 5;
                for (int other = 1; other <= 5; other++) {
                    Due.due("drops(" + other + ") with the kind " + kind, x.drops(other),
                            other != kind ? 0 : kind == 5 ? pawns : ALL);
                }
                x.drop(kind, 12);
                x.setSide(side);
                Due.due("none is left", x.drops(kind), 0);
            }
        }
    }

    /** "Returns the squares": those between alone, none beside the king, none with two attackers. */
    private static void promise25InCheck() {
        FiveShogi x = Setup.of("r . . . . . . . . . . . . . . . . . . . K . . . b", 0, "GP");
        Due.due("golds between", x.drops(1), Setup.bits(5, 10, 15));
        Due.due("pawns between", x.drops(5), Setup.bits(5, 10, 15));
        x.put(2, 5);
        x.put(22, 14);
        Due.due("two attackers: no gold", x.drops(1), 0);
        Due.due("two attackers: no pawn", x.drops(5), 0);
        x.takeOff(0);
        Due.due("one square", x.drops(1), Setup.bits(21));
        Due.due("one square", x.drops(5), Setup.bits(21));
        x.put(21, 5);
        Due.due("no check", x.drops(1), ALL & ~Setup.bits(2, 20, 21, 22, 24));
        x.put(15, 15);
        Due.due("an attacker beside the king", x.drops(1), 0);
        x.takeOff(20);
        Due.due("no king", x.drops(1), ALL & ~Setup.bits(2, 15, 21, 22, 24));
    }

    /** "the squares on which a man can be dropped": by the side to play, from its hand. */
    private static void promise25OfTheSideToPlay() {
        FiveShogi x = Setup.of(EMPTY, 0, "Gs");
        Due.due("golds of the side 0", x.drops(1), ALL);
        Due.due("silvers of the side 1", x.drops(2), 0);
        x.setSide(1);
        Due.due("golds of the side 0", x.drops(1), 0);
        Due.due("silvers of the side 1", x.drops(2), ALL);
    }

    /** "kind: 1 to 5"; "UNKNOWN". */
    private static void promise25Unknown() {
        FiveShogi x = new FiveShogi();
        for (int kind : new int[] {0, 6, 7, 8, 9, 10, 11, -1, -5, 256, 257, Integer.MIN_VALUE, Integer.MAX_VALUE}) {
            Due.due("drops(" + kind + ")", x.drops(kind), UNKNOWN);
        }
        for (int kind = 1; kind <= 5; kind++) {
            Due.due("drops(" + kind + ")", x.drops(kind), 0);
        }
    }

    /** "Returns the one with the least number": a move, a promotion, and drops from kind to kind. */
    private static void promise26TheLeastOfSeveral() {
        String board = ". . . . k . . . . . . . . G . . . . . . . . . . .";
        String[] hands = {"GSBRP", "SBRP", "BRP", "BP", "B", "P", ""};
        int[] dues = {20108, 20208, 20400, NONE, NONE, NONE, NONE};
        for (int i = 0; i < hands.length; i++) {
            FiveShogi x = Setup.of(board, 0, hands[i]);
            Due.due("mate() with " + hands[i], x.mate(), dues[i]);
            x = Setup.of(". . . . . . . . . . . g . . . . . . . . K . . . .", 1, hands[i].toLowerCase());
            Due.due("mate() of the side 1 with " + hands[i], x.mate(),
                    dues[i] == NONE ? NONE : i < 2 ? 20015 + 100 * (i + 1) : 20422);
        }
        FiveShogi x = Setup.of(board, 0, "GSBRP");
        x.put(20, 4);
        Due.due("a move with a promotion before drops", x.mate(), 2000);
        x.put(10, 4);
        Due.due("a move of the man on the lesser square", x.mate(), 1000);
        x.put(0, 15);
        Due.due("a move that takes", x.mate(), 1000);
        x.put(5, 11);
        Due.due("a drop, as the rooks are shut off", x.mate(), 20108);
    }

    /** "Finds a play by which the other side is mated": by the promotion alone. */
    private static void promise26OnlyWithAPromotion() {
        FiveShogi x = Setup.of(". . . . k . . . P . . . . G . B . . . . . . . . .", 0, "");
        Due.due("a pawn has to be promoted", x.mate(), 10803);
        Due.due("make()", x.make(10803), 1);
        Due.due("mated", x.total(5), 1);
        x.undo();
        x.takeOff(8);
        x.put(7, 2);
        Due.due("a silver that is promoted", x.mate(), 10703);
        Due.due("one that is not gives no check", x.make(703), 0);
    }

    /** "a play by which the other side is mated": the man that moves need not give the check. */
    private static void promise26ByALineThatOpens() {
        FiveShogi x = Setup.of(
                "k . . . . "
                + ". R . . . "
                + "P . . . . "
                + ". . . . . "
                + "R . . . .", 0, "");
        Due.due("no line opens: the pawn stays in it", x.mate(), NONE);
        x.takeOff(6);
        x.put(11, 4);
        x.put(10, 3);
        Due.due("a bishop goes out of the line", x.mate(), 1002);
        Due.due("make()", x.make(1002), 1);
        Due.due("mated", x.total(5), 1);
    }

    /** "NONE if there is none": no plays, no king, a mate by a pawn from the hand alone, no check. */
    private static void promise26NoneIfThereIsNone() {
        FiveShogi x = Setup.of(EMPTY, 0, "");
        Due.due("no men", x.mate(), NONE);
        x = Setup.of("k . . . . . . . . . . . . . . . . . . . . . . . .", 0, "");
        Due.due("no men of the side to play", x.mate(), NONE);
        x = Setup.of(". . . . . . . . . . . R . . . . . . . . . R . . K", 0, "GSBRP");
        Due.due("no king of the other side", x.mate(), NONE);
        x = Setup.of("k . . . . . . . . . G R . . . . . . . . . . . . .", 0, "P");
        x.put(20, 5);
        Due.due("a pawn in the column", x.dropReason(5, 5), 4);
        Due.due("a gold and a rook mate", x.mate(), 1006);
        x.takeOff(20);
        x.put(1, 15);
        x.put(6, 13);
        x.put(5, 14);
        Due.due("the men of the other side guard it", x.mate(), NONE);
        x = Setup.of("k . . . . . . . . . . . . . . . . . . . . . . . K", 0, "BP");
        Due.due("checks, but no mate", x.mate(), NONE);
        x = Setup.of("R . . . k . . . . . . . . G . . . . . . K . . . r", 0, "");
        x.setSide(1);
        Due.due("a side that is mated already mates no more", x.mate(), NONE);
    }

    /** "Finds a play": only of those that are allowed, while the own king is attacked. */
    private static void promise26TheSideToPlayInCheck() {
        FiveShogi x = Setup.of(". . . . k . . . . . . . . G . . . . . . K . . . r", 0, "GR");
        Due.due("no drop that mates shuts the line", x.mate(), NONE);
        Due.due("the mate is not allowed", x.make(20108), NOT_POSSIBLE);
        x.put(21, 5);
        Due.due("the line is shut: a mate", x.mate(), 20108);
        x = Setup.of(". . . . k . . . . . . . . G . . . . . . . . . . K", 0, "");
        x.put(19, 14);
        Due.due("a rook is between", x.total(4), 1);
        Due.due("no man can help", x.mate(), NONE);
    }

    /** "by which the other side has the fewest plays": also with less worth, and a greater number. */
    private static void promise27FewestBeforeWorth() {
        FiveShogi x = Setup.of(
                "k . . . . "
                + ". . . . . "
                + ". . R . . "
                + ". p . p . "
                + ". . s . .", 0, "");
        Due.due("the silver is not taken", x.tightest(), 11202);
        x.make(11202);
        Due.due("one play is left", x.total(7), 1);
        Due.due("the worth", x.worth(0), 6);
        x.undo();
        Due.due("taking it", x.make(1222), 0);
        Due.due("five plays would be left", x.total(7), 5);
        Due.due("the worth would be greater", x.worth(0), 14);
    }

    /** "of several the one behind which the worth ... is the greatest": also with a greater number. */
    private static void promise27GreatestWorthBeforeNumber() {
        FiveShogi x = Setup.of("k . . . . . . . . . . . R . . . . . . . . . p . .", 0, "");
        Due.due("three plays leave one", x.tightest(), 11202);
        x.make(1207);
        Due.due("one is left", x.total(7), 1);
        Due.due("with less worth", x.worth(0), 9);
        x.undo();
        x.make(1211);
        Due.due("one is left", x.total(7), 1);
        x.undo();
        x.make(11202);
        Due.due("one is left", x.total(7), 1);
        Due.due("with the greatest worth", x.worth(0), 12);
    }

    /** "of these the one with the least number": a taking and a promotion that are worth as much. */
    private static void promise27LeastNumber() {
        FiveShogi x = Setup.of(". . . . . . . . . . . . R . . . . . . . . . p . .", 0, "");
        Due.due("as much worth: the taking", x.tightest(), 1222);
        x.make(1222);
        Due.due("worth of the taking", x.worth(0), 12);
        x.undo();
        x.make(11202);
        Due.due("worth of the promotion", x.worth(0), 12);
        x.undo();
        x.takeOff(22);
        Due.due("the promotion", x.tightest(), 11202);
        x = Setup.of("k . . . . . . . . . . . +R . . . . . . . . . p . .", 0, "");
        Due.due("two plays leave none, the lesser one", x.tightest(), 1207);
    }

    /** "the fewest plays": none is none, whether it is a mate or not. */
    private static void promise27NoPlaysWithoutACheck() {
        FiveShogi x = Setup.of(". . . . . . . . . . . . R . . R . . . . . . . . k", 0, "");
        Due.due("a mate", x.mate(), 1222);
        Due.due("no plays, the lesser number", x.tightest(), 1213);
        x.make(1213);
        Due.due("lost", x.total(6), 1);
        Due.due("not mated", x.total(5), 0);
        x.undo();
        x.make(1222);
        Due.due("mated", x.total(5), 1);
    }

    /** "the worth ... is the greatest": of those below 0. */
    private static void promise27WorthBelow0() {
        FiveShogi x = Setup.of(". . . . . . . . . . . . . . . . . . . K p p p p p", 0, "");
        Due.due("a pawn is taken", x.tightest(), 1923);
        x.make(1923);
        Due.due("the worth", x.worth(0), -2);
        x = Setup.of(". . . . . . . . . . . . K . . . . . . . p . . . .", 0, "");
        Due.due("all alike, below 0", x.tightest(), 1206);
        x = Setup.of("P P P P P k . . . . . . . . . . . . . . . . . . .", 1, "");
        Due.due("for the side 1", x.tightest(), 500);
        x.make(500);
        Due.due("the worth", x.worth(1), -2);
    }

    /** "the play": a drop too, though a man on the board is worth 1 less. */
    private static void promise27Drops() {
        FiveShogi x = Setup.of(EMPTY, 0, "GP");
        Due.due("all alike", x.tightest(), 20100);
        x = Setup.of(EMPTY, 0, "P");
        Due.due("the least drop of a pawn", x.tightest(), 20505);
        x = Setup.of(". . . . . . . . . . . . . . . . . . . . . . . . K", 0, "G");
        Due.due("a move keeps the worth", x.tightest(), 2418);
        x = Setup.of("k . . . . . . . . . . . . . . . . . . . . . . . .", 0, "G");
        Due.due("fewest plays before worth", x.tightest(), 20105);
        x.make(20105);
        Due.due("one play is left", x.total(7), 1);
    }

    /** "Returns the play; NONE if there is none." */
    private static void promise27OneOrNone() {
        FiveShogi x = Setup.of(EMPTY, 0, "");
        Due.due("no men", x.tightest(), NONE);
        x = Setup.of("k . . . . . . . . . . R . . . . . . . . R . . . K", 1, "");
        Due.due("mated", x.tightest(), NONE);
        x.takeOff(20);
        Due.due("one play", x.tightest(), 5);
        x.put(9, 4);
        Due.due("lost without a check", x.tightest(), NONE);
        x = Setup.of("P . . . . P . . . . . . . . . . . . . . . . . . .", 0, "");
        Due.due("pawns that can't move", x.tightest(), NONE);
    }

    /** "the worth for the side that made it": of the side 1. */
    private static void promise27OfTheSide1() {
        FiveShogi x = Setup.of(". . P . . . . . . . . . r . . . . . . . . . . . K", 1, "");
        x.takeOff(24);
        Due.due("as much worth: the taking", x.tightest(), 1202);
        x.takeOff(2);
        Due.due("the promotion", x.tightest(), 11222);
        x.put(24, 0);
        Due.due("a promoted rook leaves one play", x.tightest(), 11222);
        x.put(12, 18);
        Due.due("two plays leave none, the lesser one", x.tightest(), 1213);
    }

    /** None of the four is described as a change. */
    private static void searchesAreNoChanges() {
        FiveShogi x = Setup.of("k . p . . . . . S . P . r . . . . . . . . . B . K", 0, "GSBRPgsbrp");
        x.keep();
        String before = Seen.of(x);
        Due.due("tightest()", x.tightest() >= 0 ? 1 : 0, 1);
        Seen.same("tightest()", before, x);
        x.mate();
        Seen.same("mate()", before, x);
        for (int kind = 0; kind <= 6; kind++) {
            x.drops(kind);
        }
        Seen.same("drops()", before, x);
        for (int rank = -1; rank < 30; rank++) {
            x.playAt(rank);
        }
        Seen.same("playAt()", before, x);
        Due.due("the kings are known", x.put(24, 0), NONE);
        Due.due("the kings are known", x.put(0, 10), NONE);
    }
}
