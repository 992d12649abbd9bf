/** Promises 13 to 15 (undo, keep, restore): the boundary cases of each sentence. */
public final class HistoryEdgesTest {
    private static final int NOT_POSSIBLE = -1004;
    private static final int NONE = -1005;

    public static void main(String[] args) {
        promise13HowManyStatesAreLeft();
        promise13NoneIfTheHistoryIsEmpty();
        promise13RestoresAndRemoves();
        promise13AfterEachSortOfChange();
        promise13ManyTimes();
        promise14HowManyMen();
        promise14InPlaceOfAnEarlierOne();
        promise14IsNoChange();
        promise15HowManyMenThen();
        promise15NoneIfThereIsNoSnapshot();
        promise15TheSnapshotStays();
        promise15IsAChangeAlsoOfAFullHistory();
        promise15KingsAndCounts();
        Due.end();
    }

    /** "Returns how many states are left": 3 to 0. */
    private static void promise13HowManyStatesAreLeft() {
        for (int changes = 1; changes <= 5; changes++) {
            FiveShogi x = new FiveShogi();
            for (int i = 0; i < changes; i++) {
                x.make(x.playAt(0));
            }
            for (int left = Math.min(4, changes) - 1; left >= 0; left--) {
                Due.due("undo()", x.undo(), left);
                Due.due("total(12)", x.total(12), left);
            }
            Due.due("plays so far", x.total(8), Math.max(0, changes - 4));
        }
    }

    /** "NONE if the history is empty": at first, behind the last undo(), behind a change that was refused. */
    private static void promise13NoneIfTheHistoryIsEmpty() {
        FiveShogi x = new FiveShogi();
        String before = Seen.of(x);
        Due.due("at first", x.undo(), NONE);
        Due.due("again", x.undo(), NONE);
        Seen.same("undo()", before, x);
        x.make(1510);
        Due.due("the only state", x.undo(), 0);
        Due.due("behind it", x.undo(), NONE);
        x.make(1511);
        Due.due("behind a play that is refused", x.undo(), NONE);
        x.keep();
        Due.due("a snapshot is no state of the history", x.undo(), NONE);
        Seen.same("undo()", before, x);
    }

    /** "Restores the latest state of the history, and removes it from there." */
    private static void promise13RestoresAndRemoves() {
        FiveShogi x = new FiveShogi();
        String first = Seen.of(x);
        x.make(2409);
        String second = Seen.of(x);
        x.make(409);
        String third = Seen.of(x);
        x.make(20514);
        x.undo();
        Seen.same("undo() of the third change", third, x);
        x.undo();
        Seen.same("undo() of the second change", second, x);
        x.make(x.playAt(0));
        x.undo();
        Seen.same("another second change and undo()", second, x);
        x.undo();
        Seen.same("undo() of the first change", first, x);
        Due.due("none is left", x.undo(), NONE);
    }

    /** "Restores the latest state": men, hands, the side to play and the four counts, whatever the change was. */
    private static void promise13AfterEachSortOfChange() {
        for (int which = 0; which < 10; which++) {
            FiveShogi x = Setup.of(". . . . k P . . . . . . . . p . . . . R . . . K .", 0, "Gp");
            x.keep();
            while (x.total(12) > 0) {
                x.undo();
            }
            x.restore();
            x.make(1914);
            x.setSide(0);
            String before = Seen.of(x);
            change(x, which);
            Due.due("the change " + which + " is recorded", x.total(12), 4);
            Due.due("undo()", x.undo(), 3);
            Seen.same("the change " + which + " and undo()", before, x);
        }
    }

    private static void change(FiveShogi x, int which) {
        switch (which) {
            case 0 -> Due.due("move()", x.move(14, 10, false), 99);
            case 1 -> Due.due("move() with a promotion", x.move(5, 0, true), 99);
            case 2 -> Due.due("drop()", x.drop(1, 24), 0);
            case 3 -> Due.due("make()", x.make(20124), 1);
            case 4 -> Due.due("put()", x.put(5, 12), 4);
            case 5 -> Due.due("takeOff()", x.takeOff(23), 0);
            case 6 -> Due.due("setHand()", x.setHand(1, 5, 4), 1);
            case 7 -> Due.due("clearAll()", x.clearAll(), 7);
            case 8 -> Due.due("setSide()", x.setSide(1) > 0 ? 1 : 0, 1);
            default -> Due.due("restore()", x.restore(), 5);
        }
    }

    /** "Restores the latest state ..., and removes it": a change and its undoing, over and over. */
    private static void promise13ManyTimes() {
        FiveShogi x = new FiveShogi();
        for (int i = 0; i < 120; i++) {
            Due.due("make()", x.make(1510), 0);
            Due.due("undo()", x.undo(), 0);
        }
        Due.due("plays so far", x.total(8), 0);
        Due.due("the pawn", x.man(15), 5);
        for (int i = 1; i <= 100; i++) {
            x.put(12, i % 9 + 1);
        }
        Due.due("undo()", x.undo(), 3);
        Due.due("the man", x.man(12), 99 % 9 + 1);
    }

    /** "Returns how many men there are on the board": 0, 1, 12, 25; the hands not counted. */
    private static void promise14HowManyMen() {
        FiveShogi x = new FiveShogi();
        Due.due("at first", x.keep(), 12);
        x.setHand(0, 1, 4);
        x.setHand(1, 5, 4);
        Due.due("with hands", x.keep(), 12);
        x.clearAll();
        Due.due("none", x.keep(), 0);
        x.setHand(0, 1, 4);
        Due.due("none but in the hand", x.keep(), 0);
        for (int square = 0; square < 25; square++) {
            x.put(square, 5);
            Due.due("keep()", x.keep(), square + 1);
        }
    }

    /** "Takes a snapshot of the state, in place of an earlier one." */
    private static void promise14InPlaceOfAnEarlierOne() {
        FiveShogi x = new FiveShogi();
        x.keep();
        x.make(1510);
        x.keep();
        x.make(914);
        Due.due("restore()", x.restore(), 12);
        Due.due("the later one", x.total(8), 1);
        Due.due("the later one", x.man(10), 5);
        x.undo();
        x.undo();
        Due.due("keep() behind undo()", x.keep(), 12);
        x.clearAll();
        Due.due("restore()", x.restore(), 12);
        Due.due("as it was behind undo()", x.total(8), 1);
    }

    /** keep() is not described as a change: it is not recorded, and undo() leaves the snapshot. */
    private static void promise14IsNoChange() {
        FiveShogi x = new FiveShogi();
        String before = Seen.of(x);
        x.keep();
        x.keep();
        Seen.same("keep()", before, x);
        Due.due("history", x.undo(), NONE);
        x.put(12, 1);
        Due.due("keep()", x.keep(), 13);
        x.undo();
        Due.due("the snapshot is of the state then", x.restore(), 13);
        Due.due("the man", x.man(12), 1);
    }

    /** "Returns how many men there are on the board then": 0, 12, 25. */
    private static void promise15HowManyMenThen() {
        FiveShogi x = new FiveShogi();
        x.setHand(0, 1, 4);
        x.keep();
        x.clearAll();
        Due.due("twelve", x.restore(), 12);
        x.clearAll();
        x.keep();
        x.put(12, 1);
        Due.due("none", x.restore(), 0);
        for (int square = 0; square < 25; square++) {
            x.put(square, 15);
        }
        x.keep();
        x.clearAll();
        Due.due("a full board", x.restore(), 25);
    }

    /** "NONE if there is no snapshot": nothing is changed or recorded by that. */
    private static void promise15NoneIfThereIsNoSnapshot() {
        FiveShogi x = new FiveShogi();
        for (int i = 1; i <= 5; i++) {
            Due.due("restore()", x.restore(), NONE);
            x.put(12, i);
        }
        String before = Seen.of(x);
        Due.due("restore()", x.restore(), NONE);
        Seen.same("restore()", before, x);
        Due.due("undo()", x.undo(), 3);
        Due.due("restore()", x.restore(), NONE);
        Due.due("the man", x.man(12), 4);
    }

    /** "Restores the state of the snapshot, which stays": a hundred times; what is changed behind it stays out. */
    private static void promise15TheSnapshotStays() {
        FiveShogi x = new FiveShogi();
        x.make(2409);
        x.keep();
        for (int i = 0; i < 100; i++) {
            Due.due("make()", x.make(409) != NOT_POSSIBLE ? 1 : 0, 1);
            Due.due("put()", x.put(i % 4, 11) != 0 ? 1 : 0, 1);
            Due.due("restore()", x.restore(), 11);
            Due.due("plays so far", x.total(8), 1);
        }
        Due.due("the men", x.man(0), 14);
        Due.due("the men", x.man(9), 4);
        Due.due("the hand", x.hand(0, 5), 1);
    }

    /** "This is a change": recorded with 0 and with 4 states, also where it restores what there is. */
    private static void promise15IsAChangeAlsoOfAFullHistory() {
        FiveShogi x = new FiveShogi();
        x.keep();
        for (int states = 1; states <= 6; states++) {
            Due.due("restore()", x.restore(), 12);
            Due.due("states", x.total(12), Math.min(4, states));
        }
        for (int man = 1; man <= 4; man++) {
            x.put(12, man);
        }
        x.restore();
        Due.due("undo()", x.undo(), 3);
        Due.due("the state before restore()", x.man(12), 4);
        x.undo();
        x.undo();
        Due.due("undo()", x.undo(), 0);
        Due.due("the oldest one was dropped", x.man(12), 1);
    }

    /** "Restores the state of the snapshot": also which kings there are, and the counts. */
    private static void promise15KingsAndCounts() {
        FiveShogi x = Setup.of("k . . . . . . . . . . . . . . . . . . . . . . . K", 1, "");
        x.keep();
        x.clearAll();
        x.put(12, 0);
        x.put(2, 10);
        x.setSide(0);
        x.make(1211);
        x.restore();
        Due.due("the king of 0", x.put(11, 0), NOT_POSSIBLE);
        Due.due("the king of 0", x.put(24, 0), NONE);
        Due.due("the king of 1", x.put(2, 10), NOT_POSSIBLE);
        Due.due("the king of 1", x.put(0, 10), NONE);
        Due.due("the side to play", x.total(0), 1);
        Due.due("plays so far", x.total(8), 0);
        x.takeOff(24);
        x.keep();
        x.put(24, 0);
        x.restore();
        Due.due("no king of 0", x.put(12, 0), 2);
        x.undo();
        x.undo();
        Due.due("a king of 0 again", x.put(12, 0), NOT_POSSIBLE);
    }
}
