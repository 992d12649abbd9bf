/** Promises 24 (playAt), 25 (drops), 26 (mate) and 27 (tightest). */
public final class SearchTest {
    private static final int UNKNOWN = -1001;
    private static final int OUT_OF_RANGE = -1002;
    private static final int NONE = -1005;

    public static void main(String[] args) {
        promise24AtFirst();
        promise24Order();
        promise24Refused();
        promise25Drops();
        promise25Pawns();
        promise26Mate();
        promise26TheLeastNumber();
        promise26NoMate();
        promise26OfTheSide1();
        promise27FewestPlays();
        promise27GreatestWorth();
        promise27LeastNumber();
        promise27None();
        searchingChangesNothing();
        Due.end();
    }

    private static void plays(FiveShogi x, int... plays) {
        for (int rank = 0; rank < plays.length; rank++) {
            Due.due("playAt(" + rank + ")", x.playAt(rank), plays[rank]);
        }
        Due.due("playAt(" + plays.length + ")", x.playAt(plays.length), NONE);
        Due.due("total(7)", x.total(7), plays.length);
    }

    private static void promise24AtFirst() {
        FiveShogi x = new FiveShogi();
        plays(x, 1510, 2016, 2116, 2117, 2216, 2217, 2218, 2305, 2311, 2317, 2319, 2409, 2414, 2419);
    }

    private static void promise24Order() {
        FiveShogi x = Setup.of(
                "k . . . . "
                + ". . P . S "
                + "p . . . . "
                + ". . . . . "
                + ". . . . K", 0, "GP");
        int[] plays = new int[100];
        int many = 0;
        for (int to : new int[] {3, 4, 13}) {
            plays[many++] = 900 + to;
        }
        for (int to : new int[] {18, 19, 23}) {
            plays[many++] = 2400 + to;
        }
        plays[many++] = 10702;
        plays[many++] = 10903;
        plays[many++] = 10904;
        for (int to = 0; to < 25; to++) {
            if (x.man(to) == NONE) {
                plays[many++] = 20100 + to;
            }
        }
        for (int to = 5; to < 25; to++) {
            if (x.man(to) == NONE && to % 5 != 2) {
                plays[many++] = 20500 + to;
            }
        }
        plays(x, java.util.Arrays.copyOf(plays, many));
    }

    private static void promise24Refused() {
        FiveShogi x = new FiveShogi();
        Due.due("-1", x.playAt(-1), OUT_OF_RANGE);
        Due.due("least", x.playAt(Integer.MIN_VALUE), OUT_OF_RANGE);
        Due.due("greatest", x.playAt(Integer.MAX_VALUE), NONE);
        Due.due("14", x.playAt(14), NONE);
        x.clearAll();
        Due.due("0 without men", x.playAt(0), NONE);
        Due.due("-1 without men", x.playAt(-1), OUT_OF_RANGE);
    }

    private static void promise25Drops() {
        FiveShogi x = Setup.of("k . . . . . . . . . . . r . . . . . . . . . . . K", 0, "GRs");
        int empty = (1 << 25) - 1 - Setup.bits(0, 12, 24);
        Due.due("golds", x.drops(1), empty);
        Due.due("rooks", x.drops(4), empty);
        Due.due("no silvers", x.drops(2), 0);
        Due.due("kind 0", x.drops(0), UNKNOWN);
        Due.due("kind 6", x.drops(6), UNKNOWN);
        Due.due("kind -1", x.drops(-1), UNKNOWN);
        x.put(22, 14);
        Due.due("in check", x.drops(1), Setup.bits(23));
        x.setSide(1);
        Due.due("silvers of the side 1", x.drops(2), (1 << 25) - 1 - Setup.bits(0, 12, 22, 24));
        Due.due("its golds", x.drops(1), 0);
    }

    private static void promise25Pawns() {
        FiveShogi x = Setup.of(". P . . k . . . . . . . . G . B . . . . K . . . .", 0, "P");
        Due.due("not in the row 0, the column 1, nor to mate", x.drops(5),
                Setup.bits(5, 7, 8, 10, 12, 14, 17, 18, 19, 22, 23, 24));
        x.setHand(1, 5, 1);
        x.setSide(1);
        Due.due("of the side 1", x.drops(5), (1 << 20) - 1 - Setup.bits(1, 4, 13, 15));
    }

    private static void promise26Mate() {
        FiveShogi x = Setup.of(". . . . k . . . . . . . . G . B . . . . K . . . .", 0, "PG");
        Due.due("a drop of a gold", x.mate(), 20103);
        Due.due("make() of it", x.make(20103), 1);
        Due.due("mated", x.total(5), 1);
        x.undo();
        x.setHand(0, 1, 0);
        Due.due("no drop of a gold", x.mate(), NONE);
        Due.due("a pawn may not mate", x.dropReason(5, 9), 6);
        x.put(14, 5);
        Due.due("a move of the gold with a pawn behind it", x.mate(), 1309);
        Due.due("a move of a pawn may", x.make(1409), 1);
        Due.due("mated", x.total(5), 1);
    }

    private static void promise26TheLeastNumber() {
        FiveShogi x = Setup.of(
                ". . . . k "
                + "R . . . . "
                + ". . . . . "
                + ". R . . . "
                + "K . . . .", 0, "RG");
        Due.due("a rook to the row 0, plain before promoted", x.mate(), 1601);
        x = Setup.of(
                "k . . . . "
                + ". . . . R "
                + ". . . . . "
                + ". . . R . "
                + "K . . . .", 0, "R");
        Due.due("the move with the lesser number", x.mate(), 1803);
        x.put(18, 1);
        Due.due("a drop", x.mate(), 20402);
    }

    private static void promise26NoMate() {
        FiveShogi x = new FiveShogi();
        Due.due("at first", x.mate(), NONE);
        x = Setup.of(". . . . k . . . . . . . . . . . . . . . K . . . .", 0, "");
        Due.due("kings alone", x.mate(), NONE);
        x = Setup.of("k . . . . . . . . . . . R . . . . . . . . . . . K", 0, "S");
        Due.due("no plays without a check are no mate", x.mate(), NONE);
        x.takeOff(0);
        Due.due("without the other king", x.mate(), NONE);
        x.clearAll();
        Due.due("without men", x.mate(), NONE);
    }

    private static void promise26OfTheSide1() {
        FiveShogi x = Setup.of(
                "k . . . . "
                + ". . . . . "
                + ". . . . . "
                + "r . . . . "
                + ". . . K .", 1, "r");
        int play = x.mate();
        Due.due("a rook from the hand", play, 20420);
        x.make(play);
        Due.due("mated", x.total(5), 1);
    }

    private static void promise27FewestPlays() {
        FiveShogi x = new FiveShogi();
        x.move(24, 9, false);
        Due.due("the only play", x.tightest(), 309);
        x = Setup.of(". . . . k . . . . . . . . G . B . . . . K . . . .", 0, "PG");
        Due.due("none without a mate: a gold in the hand is worth more", x.tightest(), 1314);
        x = Setup.of("k . . . . . . . . R . . . . . . . . . . . . . . K", 0, "R");
        Due.due("a mate leaves none", x.tightest(), 20402);
        x = Setup.of("k . . . . . . . . . . . R . . . . . . . . . . . K", 0, "");
        Due.due("one play is left, and a promoted rook is worth more", x.tightest(), 11202);
        x.put(12, 1);
        Due.due("a gold that leaves one play, though it can be taken", x.tightest(), 1206);
    }

    private static void promise27GreatestWorth() {
        FiveShogi x = Setup.of(
                "k . . . . "
                + "P P P . . "
                + ". . . . . "
                + ". . . . . "
                + "p . . . K", 0, "");
        x.clearAll();
        x.put(12, 4);
        x.put(14, 15);
        x.put(22, 11);
        Due.due("fewest first", x.tightest(), 1222);
        x.put(14, 14);
        x.takeOff(22);
        Due.due("a taking", x.tightest(), 1214);
    }

    private static void promise27LeastNumber() {
        FiveShogi x = Setup.of(". . . . . . . . . . . . K . . . . . . . . . . . .", 0, "");
        Due.due("all alike", x.tightest(), 1206);
        x = Setup.of(". . . . . . S . . . . . . . . . . . . . . . . . .", 0, "GP");
        Due.due("the greatest worth is a promotion", x.tightest(), 10600);
        x = Setup.of(". . . . . . . . . . . . G . . . . . . . . . . . .", 0, "");
        Due.due("a gold, all alike", x.tightest(), 1206);
    }

    private static void promise27None() {
        FiveShogi x = Setup.of("R . . . k . . . . R . . . . G . . . . . K . . . .", 1, "");
        Due.due("mated", x.tightest(), NONE);
        x.clearAll();
        Due.due("without men", x.tightest(), NONE);
    }

    private static void searchingChangesNothing() {
        FiveShogi x = Setup.of(
                "k . p . . "
                + ". . . S . "
                + "P . r . . "
                + ". . . . . "
                + ". . B . K", 0, "GSP");
        int men = x.keep();
        int worth = x.worth(0);
        int plays = x.total(7);
        x.mate();
        x.tightest();
        x.playAt(7);
        x.drops(5);
        Due.due("men", x.total(1), men);
        Due.due("worth", x.worth(0), worth);
        Due.due("plays", x.total(7), plays);
        Due.due("side", x.total(0), 0);
        Due.due("plays made", x.total(8), 0);
        Due.due("taken", x.total(9), 0);
        Due.due("promoted", x.total(10), 0);
        Due.due("dropped", x.total(11), 0);
        Due.due("history", x.total(12), 4);
        Due.due("a king is where it was", x.put(24, 0), NONE);
    }
}
