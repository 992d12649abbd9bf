/** Promises 13 (undo), 14 (keep) and 15 (restore), and which calls are changes. */
public final class HistoryTest {
    private static final int NONE = -1005;

    public static void main(String[] args) {
        promise13Undo();
        promise13FourStatesAtMost();
        promise13TheWholeState();
        promise13WhatIsNoChange();
        promise13EveryChangeIsRecorded();
        promise14Keep();
        promise15Restore();
        promise15IsAChange();
        promise15TheWholeState();
        Due.end();
    }

    private static void promise13Undo() {
        FiveShogi x = new FiveShogi();
        Due.due("nothing", x.undo(), NONE);
        x.move(15, 10, false);
        x.move(9, 14, false);
        Due.due("one left", x.undo(), 1);
        Due.due("the pawn of 1", x.man(9), 15);
        Due.due("the pawn of 0", x.man(10), 5);
        Due.due("side", x.total(0), 1);
        Due.due("none left", x.undo(), 0);
        Due.due("the pawn of 0", x.man(15), 5);
        Due.due("side", x.total(0), 0);
        Due.due("nothing", x.undo(), NONE);
        Due.due("history", x.total(12), 0);
    }

    private static void promise13FourStatesAtMost() {
        FiveShogi x = new FiveShogi();
        for (int i = 0; i < 7; i++) {
            x.put(12, i + 1);
            Due.due("history", x.total(12), Math.min(i + 1, 4));
        }
        for (int left = 3; left >= 0; left--) {
            Due.due("undo()", x.undo(), left);
            Due.due("man", x.man(12), left + 3);
        }
        Due.due("the oldest are gone", x.undo(), NONE);
        Due.due("man", x.man(12), 3);
        x.put(12, 9);
        Due.due("history", x.total(12), 1);
        Due.due("undo()", x.undo(), 0);
        Due.due("man", x.man(12), 3);
    }

    private static void promise13TheWholeState() {
        FiveShogi x = Setup.of("k . . . . . . . . . . R p . . . . . . . . . . . K", 0, "Gs");
        x.move(11, 1, true);
        x.move(0, 1, false);
        x.undo();
        Due.due("a promoted rook", x.man(1), 8);
        Due.due("plays", x.total(8), 1);
        Due.due("taken", x.total(9), 0);
        Due.due("hand", x.hand(1, 4), 0);
        x.undo();
        Due.due("a rook", x.man(11), 4);
        Due.due("promoted", x.total(10), 0);
        Due.due("plays", x.total(8), 0);
        x.move(11, 12, false);
        Due.due("taken", x.total(9), 1);
        x.undo();
        Due.due("taken", x.total(9), 0);
        Due.due("hand", x.hand(0, 5), 0);
        x.drop(1, 22);
        x.undo();
        Due.due("dropped", x.total(11), 0);
        Due.due("hand", x.hand(0, 1), 1);
        x.setHand(1, 2, 4);
        x.undo();
        Due.due("hand", x.hand(1, 2), 1);
        x.setSide(1);
        x.undo();
        Due.due("side", x.total(0), 0);
        x.clearAll();
        x.undo();
        Due.due("men", x.total(1), 4);
        Due.due("hands", x.total(2) + x.total(3), 2);
        x.type('a');
        x.put(12, 1);
        x.type('b');
        x.undo();
        Due.due("the text is no part of the state", x.total(13), 2);
    }

    private static void promise13WhatIsNoChange() {
        FiveShogi x = new FiveShogi();
        x.type('3');
        x.clearText();
        x.perform();
        x.undo();
        x.keep();
        x.total(7);
        x.mate();
        x.tightest();
        x.playAt(3);
        x.drops(5);
        x.moveReason(15, 10, false);
        x.dropReason(5, 12);
        x.worth(1);
        x.attacked(24);
        x.attackers(0, 12);
        x.move(15, 5, false);
        x.drop(5, 12);
        x.make(1505);
        x.put(20, 0);
        x.takeOff(12);
        x.setHand(0, 1, 0);
        x.setSide(0);
        Due.due("history", x.total(12), 0);
        x.move(15, 10, false);
        x.undo();
        Due.due("undo is no change", x.total(12), 0);
    }

    private static void promise13EveryChangeIsRecorded() {
        FiveShogi x = new FiveShogi();
        x.move(15, 10, false);
        Due.due("move", x.total(12), 1);
        x.make(914);
        Due.due("make", x.total(12), 2);
        x.setHand(0, 5, 2);
        Due.due("setHand", x.total(12), 3);
        x.drop(5, 11);
        Due.due("drop", x.total(12), 4);
        x.undo();
        x.undo();
        x.undo();
        x.undo();
        x.put(12, 1);
        Due.due("put", x.total(12), 1);
        x.takeOff(12);
        Due.due("takeOff", x.total(12), 2);
        x.setSide(1);
        Due.due("setSide", x.total(12), 3);
        x.clearAll();
        Due.due("clearAll", x.total(12), 4);
        Due.due("undo()", x.undo(), 3);
        Due.due("side", x.total(0), 1);
        Due.due("undo()", x.undo(), 2);
        Due.due("side", x.total(0), 0);
        Due.due("undo()", x.undo(), 1);
        Due.due("man", x.man(12), 1);
        x.keep();
        x.restore();
        Due.due("restore", x.total(12), 2);
        Setup.type(x, "30-20");
        x.perform();
        Due.due("perform", x.total(12), 3);
    }

    private static void promise14Keep() {
        FiveShogi x = new FiveShogi();
        Due.due("men", x.keep(), 12);
        Due.due("history", x.total(12), 0);
        x.takeOff(0);
        x.setHand(0, 1, 2);
        Due.due("the hands do not count", x.keep(), 11);
        x.put(12, 1);
        Due.due("the later one counts", x.restore(), 11);
        Due.due("square 0", x.man(0), NONE);
        Due.due("hand", x.hand(0, 1), 2);
        x.clearAll();
        Due.due("no men", x.keep(), 0);
        x.put(12, 1);
        Due.due("no men", x.restore(), 0);
    }

    private static void promise15Restore() {
        FiveShogi x = new FiveShogi();
        Due.due("no snapshot", x.restore(), NONE);
        Due.due("history", x.total(12), 0);
        x.move(15, 10, false);
        x.keep();
        x.move(9, 14, false);
        x.move(10, 5, false);
        Due.due("restore()", x.restore(), 12);
        Due.due("the pawn of 0", x.man(10), 5);
        Due.due("the pawn of 1", x.man(9), 15);
        Due.due("side", x.total(0), 1);
        Due.due("plays", x.total(8), 1);
        x.clearAll();
        Due.due("the snapshot stays", x.restore(), 12);
        Due.due("side", x.total(0), 1);
    }

    private static void promise15IsAChange() {
        FiveShogi x = new FiveShogi();
        x.keep();
        Due.due("the same state", x.restore(), 12);
        Due.due("history", x.total(12), 1);
        x.clearAll();
        x.restore();
        Due.due("history", x.total(12), 3);
        Due.due("undo()", x.undo(), 2);
        Due.due("men", x.total(1), 0);
        Due.due("undo()", x.undo(), 1);
        Due.due("men", x.total(1), 12);
        Due.due("undo() leaves the snapshot", x.restore(), 12);
        x.move(15, 10, false);
        Due.due("a change leaves the snapshot", x.restore(), 12);
        Due.due("pawn", x.man(15), 5);
    }

    private static void promise15TheWholeState() {
        FiveShogi x = Setup.of("k . . . . . . p . . . R . . . . . . . . . . . . K", 0, "Gs");
        x.move(11, 1, true);
        x.keep();
        x.drop(2, 22);
        x.type('a');
        x.clearAll();
        x.setSide(1);
        x.restore();
        Due.due("a promoted rook", x.man(1), 8);
        Due.due("the silver is in the hand", x.man(22), NONE);
        Due.due("hand 0", x.hand(0, 1), 1);
        Due.due("hand 1", x.hand(1, 2), 1);
        Due.due("side", x.total(0), 1);
        Due.due("plays", x.total(8), 1);
        Due.due("promoted", x.total(10), 1);
        Due.due("dropped", x.total(11), 0);
        Due.due("text", x.total(13), 1);
        Due.due("a king is known again", x.put(12, 0), -1004);
    }
}
