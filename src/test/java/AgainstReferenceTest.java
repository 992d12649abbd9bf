import java.util.Map;
import java.util.TreeMap;

/** Long runs of calls, ordinary and wrong ones, each answered by the program and the reference. */
public final class AgainstReferenceTest {
    private static final int RUNS = 280;
    /** The last step may take some 30 calls more; an object is used for at most 512. */
    private static final int CALLS = 470;

    /** How often something was answered: a run that never meets a rule says nothing of it. */
    private static final Map<String, Integer> MET = new TreeMap<>();

    private long seed;
    private final int run;
    private final FiveShogi x = new FiveShogi();
    private final Reference y = new Reference();
    private int calls = 0;

    private AgainstReferenceTest(int run) {
        this.run = run;
        this.seed = 77777L + run * 1000003L;
    }

    public static void main(String[] args) {
        for (int run = 0; run < RUNS && Due.isAllRight(); run++) {
            new AgainstReferenceTest(run).go();
        }
        System.out.println("met: " + MET);
        for (int reason = 0; reason <= 6; reason++) {
            isMet("moveReason " + reason, 20);
            isMet("dropReason " + reason, 20);
        }
        isMet("a mate", 20);
        isMet("a mate by a promotion", 3);
        isMet("a mate by a drop", 3);
        isMet("total(5) 1", 20);
        isMet("perform of some plays", 20);
        Due.end();
    }

    private static void isMet(String what, int least) {
        Due.due("met " + what + " " + least + " times", MET.getOrDefault(what, 0) >= least ? 1 : 0, 1);
    }

    private static void met(String what) {
        MET.merge(what, 1, Integer::sum);
    }

    /** A number from 0 to below, always the same ones. */
    private int some(int below) {
        seed = seed * 6364136223846793005L + 1442695040888963407L;
        return (int) ((seed >>> 33) % below);
    }

    private boolean oneIn(int many) {
        return some(many) == 0;
    }

    private int due(String call, int got, int want) {
        calls++;
        Due.due("run " + run + ", call " + calls + ", " + call, got, want);
        return want;
    }

    private void go() {
        switch (run % 4) {
            case 0 -> { }
            case 1 -> setUp(2 + some(6), 3);
            case 2 -> setUp(8 + some(14), 1);
            default -> cornerKing();
        }
        while (calls < CALLS && Due.isAllRight()) {
            if (oneIn(3)) {
                change();
            } else {
                ask();
            }
        }
    }

    private void setUp(int men, int hands) {
        clear();
        if (!oneIn(8)) {
            put(some(25), 0);
        }
        if (!oneIn(8)) {
            put(some(25), 10);
        }
        for (int i = 0; i < men; i++) {
            int square = some(25);
            if (y.man(square) % 10 != 0) {
                put(square, 10 * some(2) + 1 + some(9));
            }
        }
        for (int i = 0; i < hands; i++) {
            setHand(some(2), 1 + some(5), some(3));
        }
        setSide(some(2));
    }

    /** A king at the edge with men of the other side near it, and pawns in the hand. */
    private void cornerKing() {
        clear();
        int side = some(2);
        int king = side == 0 ? some(5) : 20 + some(5);
        put(king, 10 * (1 - side));
        put(side == 0 ? 20 + some(5) : some(5), 10 * side);
        for (int i = 0; i < 6; i++) {
            int row = side == 0 ? some(3) : 2 + some(3);
            int square = 5 * row + Math.min(4, Math.max(0, king % 5 - 2 + some(5)));
            if (y.man(square) == Reference.NONE) {
                put(square, 10 * (oneIn(3) ? 1 - side : side) + 1 + some(9));
            }
        }
        setHand(side, 5, 1 + some(2));
        setHand(side, 1 + some(4), 1);
        if (oneIn(3)) {
            setHand(1 - side, 5, 1);
        }
        setSide(side);
    }

    // ---- changes

    private void change() {
        int which = some(40);
        if (which < 16) {
            int rank = some(Math.max(1, y.total(7)));
            int play = due("playAt(" + rank + ")", x.playAt(rank), y.playAt(rank));
            play(play == Reference.NONE ? some(21000) : play);
        } else if (which < 18) {
            play(some(2) * 10000 + some(25) * 100 + some(25));
        } else if (which < 20) {
            play(20000 + some(7) * 100 + some(26));
        } else if (which < 24) {
            put(some(26), some(21));
        } else if (which < 26) {
            int square = some(26);
            due("takeOff(" + square + ")", x.takeOff(square), y.takeOff(square));
        } else if (which < 28) {
            setHand(some(3), some(7), some(6));
        } else if (which < 30) {
            setSide(some(3));
        } else if (which == 30) {
            due("keep()", x.keep(), y.keep());
        } else if (which == 31) {
            due("restore()", x.restore(), y.restore());
        } else if (which < 34) {
            due("undo()", x.undo(), y.undo());
        } else if (which == 34 && oneIn(8)) {
            clear();
        } else if (which == 35) {
            cornerKing();
        } else {
            text();
        }
    }

    private void play(int play) {
        int from = play % 10000 / 100;
        int to = play % 100;
        boolean promotes = play >= 10000;
        if (oneIn(3)) {
            due("make(" + play + ")", x.make(play), y.make(play));
        } else if (play >= 20000) {
            int kind = from;
            met("dropReason " + y.dropReason(kind, to));
            due("drop(" + kind + ", " + to + ")", x.drop(kind, to), y.drop(kind, to));
        } else {
            met("moveReason " + y.moveReason(from, to, promotes));
            due("move(" + from + ", " + to + ", " + promotes + ")",
                    x.move(from, to, promotes), y.move(from, to, promotes));
        }
    }

    private void clear() {
        due("clearAll()", x.clearAll(), y.clearAll());
    }

    private void put(int square, int man) {
        due("put(" + square + ", " + man + ")", x.put(square, man), y.put(square, man));
    }

    private void setHand(int side, int kind, int many) {
        due("setHand(" + side + ", " + kind + ", " + many + ")",
                x.setHand(side, kind, many), y.setHand(side, kind, many));
    }

    private void setSide(int side) {
        due("setSide(" + side + ")", x.setSide(side), y.setSide(side));
    }

    private void text() {
        due("clearText()", x.clearText(), y.clearText());
        int plays = 1 + some(3);
        StringBuilder typed = new StringBuilder();
        for (int i = 0; i < plays; i++) {
            typed.append(i == 0 ? "" : ";").append(textOf(y.playAt(some(Math.max(1, y.total(7))))));
        }
        if (oneIn(3) && typed.length() > 0) {
            typed.setCharAt(some(typed.length()), "01245-+*;gsbrpk ".charAt(some(16)));
        }
        if (oneIn(6)) {
            typed.setLength(some(typed.length() + 1));
        }
        for (int i = 0; i < typed.length(); i++) {
            due("type()", x.type(typed.charAt(i)), y.type(typed.charAt(i)));
        }
        int performed = due("perform() of " + typed, x.perform(), y.perform());
        if (performed > 1) {
            met("perform of some plays");
        }
    }

    private static String textOf(int play) {
        if (play < 0) {
            return "";
        }
        String to = "" + play % 100 / 5 + play % 100 % 5;
        int from = play % 10000 / 100;
        if (play >= 20000) {
            return " gsbrp".charAt(from) + "*" + to;
        }
        return "" + from / 5 + from % 5 + "-" + to + (play >= 10000 ? "+" : "");
    }

    // ---- questions

    private void ask() {
        int a = some(26);
        int b = some(26);
        int side = oneIn(10) ? some(4) - 1 : some(2);
        int kind = oneIn(10) ? some(8) - 1 : 1 + some(5);
        boolean promotes = oneIn(2);
        switch (some(16)) {
            case 0 -> due("man(" + a + ")", x.man(a), y.man(a));
            case 1 -> due("hand(" + side + ", " + kind + ")", x.hand(side, kind), y.hand(side, kind));
            case 2 -> due("attackers(" + side + ", " + a + ")", x.attackers(side, a), y.attackers(side, a));
            case 3 -> due("attacked(" + a + ")", x.attacked(a), y.attacked(a));
            case 4, 5 -> {
                int what = some(15);
                int total = due("total(" + what + ")", x.total(what), y.total(what));
                if (what >= 4 && what <= 6) {
                    met("total(" + what + ") " + total);
                }
            }
            case 6 -> due("worth(" + side + ")", x.worth(side), y.worth(side));
            case 7 -> met("moveReason " + due("moveReason(" + a + ", " + b + ", " + promotes + ")",
                    x.moveReason(a, b, promotes), y.moveReason(a, b, promotes)));
            case 8 -> askOfAnAttack(a, promotes);
            case 9 -> askOfADrop(kind, a);
            case 10 -> due("drops(" + kind + ")", x.drops(kind), y.drops(kind));
            case 11 -> due("playAt(" + a + ")", x.playAt(a), y.playAt(a));
            case 12 -> askOfPawns();
            case 13 -> askOfAnAttack(closestPawn(a), promotes);
            case 14 -> metMate(due("mate()", x.mate(), y.mate()));
            default -> {
                if (oneIn(2)) {
                    due("tightest()", x.tightest(), y.tightest());
                }
            }
        }
    }

    /** Asks of the moves of a man to the squares that it attacks. */
    private void askOfAnAttack(int from, boolean promotes) {
        int squares = y.attacked(from);
        for (int to = 0; to < 25 && squares >= 0; to++) {
            if ((squares >> to & 1) == 1) {
                met("moveReason " + due("moveReason(" + from + ", " + to + ", " + promotes + ")",
                        x.moveReason(from, to, promotes), y.moveReason(from, to, promotes)));
            }
        }
    }

    private void askOfADrop(int kind, int to) {
        met("dropReason " + due("dropReason(" + kind + ", " + to + ")",
                x.dropReason(kind, to), y.dropReason(kind, to)));
    }

    /** Asks of the drops of a pawn near the king of the other side. */
    private void askOfPawns() {
        int side = y.total(0);
        for (int king = 0; king < 25 && y.hand(side, 5) > 0; king++) {
            if (y.man(king) == 10 * (1 - side)) {
                askOfADrop(5, Math.floorMod(side == 0 ? king + 5 : king - 5, 25));
                askOfADrop(5, some(25));
            }
        }
    }

    /** The first square from this one on with a pawn of the side to play; this one if none has one. */
    private int closestPawn(int square) {
        for (int i = 0; i < 25; i++) {
            if (y.man((square + i) % 25) == 10 * y.total(0) + 5) {
                return (square + i) % 25;
            }
        }
        return square;
    }

    private static void metMate(int play) {
        if (play >= 0) {
            met("a mate");
            if (play >= 20000) {
                met("a mate by a drop");
            } else if (play >= 10000) {
                met("a mate by a promotion");
            }
        }
    }
}
