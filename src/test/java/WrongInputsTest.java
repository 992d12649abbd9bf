/** Arguments far out of range, in several positions: each call answers its error, nothing changes. */
public final class WrongInputsTest {
    private static final int UNKNOWN = -1001;
    private static final int OUT_OF_RANGE = -1002;
    private static final int NOT_POSSIBLE = -1004;
    private static final int NONE = -1005;

    private static final int[] FAR = {
        Integer.MIN_VALUE, Integer.MIN_VALUE + 1, -1000000, -20000, -100, -25, -10, -1,
        25, 31, 32, 33, 57, 64, 99, 100, 1000000, Integer.MAX_VALUE - 1, Integer.MAX_VALUE
    };

    public static void main(String[] args) {
        for (int far : FAR) {
            in(new FiveShogi(), far);
            FiveShogi empty = new FiveShogi();
            empty.clearAll();
            in(empty, far);
            in(Setup.of("k . p . . . . . S . P . r . . . . . . . . . B . K", 1, "GSBRPgsbrp"), far);
        }
        Due.end();
    }

    private static void in(FiveShogi x, int far) {
        int history = x.total(12);
        int men = x.total(1);
        int plays = x.total(7);
        int hands = x.total(2) + x.total(3);
        squares(x, far);
        sidesAndKinds(x, far);
        numbers(x, far);
        Due.due("history", x.total(12), history);
        Due.due("men", x.total(1), men);
        Due.due("plays", x.total(7), plays);
        Due.due("hands", x.total(2) + x.total(3), hands);
    }

    private static void squares(FiveShogi x, int far) {
        Due.due("move(" + far + ", 0)", x.move(far, 0, true), UNKNOWN);
        Due.due("move(0, " + far + ")", x.move(0, far, true), UNKNOWN);
        Due.due("moveReason(" + far + ", 24)", x.moveReason(far, 24, false), UNKNOWN);
        Due.due("moveReason(24, " + far + ")", x.moveReason(24, far, false), UNKNOWN);
        Due.due("drop(1, " + far + ")", x.drop(1, far), UNKNOWN);
        Due.due("dropReason(5, " + far + ")", x.dropReason(5, far), UNKNOWN);
        Due.due("put(" + far + ", 5)", x.put(far, 5), UNKNOWN);
        Due.due("takeOff(" + far + ")", x.takeOff(far), UNKNOWN);
        Due.due("man(" + far + ")", x.man(far), UNKNOWN);
        Due.due("attackers(0, " + far + ")", x.attackers(0, far), UNKNOWN);
        Due.due("attacked(" + far + ")", x.attacked(far), UNKNOWN);
    }

    private static void sidesAndKinds(FiveShogi x, int far) {
        Due.due("drop(" + far + ", 12)", x.drop(far, 12), UNKNOWN);
        Due.due("dropReason(" + far + ", 12)", x.dropReason(far, 12), UNKNOWN);
        Due.due("drops(" + far + ")", x.drops(far), UNKNOWN);
        Due.due("put(12, " + far + ")", x.put(12, far), UNKNOWN);
        Due.due("setHand(" + far + ", 1, 1)", x.setHand(far, 1, 1), UNKNOWN);
        Due.due("setHand(0, " + far + ", 1)", x.setHand(0, far, 1), UNKNOWN);
        Due.due("setSide(" + far + ")", x.setSide(far), UNKNOWN);
        Due.due("hand(" + far + ", 1)", x.hand(far, 1), UNKNOWN);
        Due.due("hand(1, " + far + ")", x.hand(1, far), UNKNOWN);
        Due.due("attackers(" + far + ", 12)", x.attackers(far, 12), UNKNOWN);
        Due.due("worth(" + far + ")", x.worth(far), UNKNOWN);
    }

    private static void numbers(FiveShogi x, int far) {
        Due.due("make(" + far + ")", x.make(far), NOT_POSSIBLE);
        Due.due("setHand(0, 1, " + far + ")", x.setHand(0, 1, far), OUT_OF_RANGE);
        Due.due("total(" + far + ")", x.total(far), OUT_OF_RANGE);
        int absent = far < 0 ? OUT_OF_RANGE : NONE;
        Due.due("playAt(" + far + ")", x.total(7) > far && far >= 0 ? absent : x.playAt(far), absent);
    }
}
