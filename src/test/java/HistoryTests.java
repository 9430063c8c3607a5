/** Tests of promises 19 to 21: history. */
public final class HistoryTests {
    private static final Checks CHECKS = new Checks();
    private static final int[] UNKNOWN_SLOTS = {-1, 2, Integer.MIN_VALUE, Integer.MAX_VALUE};

    public static void main(String[] args) {
        undo();
        undoOfEachAct();
        undoKeepsTheRest();
        keep();
        restore();
        restoreOfKept();
        restoreDoesNotShare();
        otherCanals();
        longHistory();
        CHECKS.end();
    }

    private static void undo() {
        CHECKS.promise(19, "undo");
        BargeLocks x = new BargeLocks();
        CHECKS.due("undo() at first", x.undo(), BargeLocks.NONE);
        for (int i = 1; i <= 7; i++) {
            x.setClearance(i);
            CHECKS.due("count(8)", x.count(8), Math.min(i, 5));
        }
        for (int i = 6; i >= 2; i--) {
            CHECKS.due("undo()", x.undo(), i - 2);
            CHECKS.due("count(6)", x.count(6), i);
        }
        CHECKS.due("undo() of what was dropped", x.undo(), BargeLocks.NONE);
        CHECKS.due("count(6) then", x.count(6), 2);
        CHECKS.due("setClearance(9)", x.setClearance(9), 2);
        CHECKS.due("undo() again", x.undo(), 0);
        CHECKS.due("count(6) again", x.count(6), 2);
    }

    private static void undoOfEachAct() {
        for (int act = 0; act <= 14; act++) {
            BargeLocks x = Checks.openCanal();
            for (int i = 0; i < 4; i++) {
                x.enter(0, 0);
                x.leave(0, 0);
            }
            x.enter(0, 0);
            if (act == 5 || act == 6) {
                x.close(0);
            }
            String before = Checks.state(x);
            int answer = carryOut(x, act);
            CHECKS.due("the answer of act " + act + " is no error", answer >= 0 ? 1 : 0, 1);
            CHECKS.due("undo() of act " + act, x.undo(), 4);
            CHECKS.due("the state behind undo() of act " + act, Checks.state(x), before);
        }
    }

    private static int carryOut(BargeLocks x, int act) {
        switch (act) {
            case 0:
                return x.addChamber(100, 10, 0, 100, 0, 10);
            case 1:
                return x.setSill(0, 1, 5);
            case 2:
                return x.setClearance(3);
            case 3:
                return x.dredge(0, 0);
            case 4:
                return x.supply(0, 77);
            case 5:
                return x.sluice(0, 1);
            case 6:
                return x.open(0, 0);
            case 7:
                return x.addBarge(1, 10, 10, 1, 10);
            case 8:
                return x.load(1, 10);
            case 9:
                return x.pump(0, 10);
            case 10:
                return x.close(0);
            case 11:
                return x.enter(2, 0);
            case 12:
                return x.leave(0, 0);
            case 13:
                return Checks.run(x, "leave 0 0;load 0 10;enter 2 0");
            default:
                x.keep(0);
                return x.restore(0);
        }
    }

    /** The text, the slots and the reason are no part of a state; and undo() does not share. */
    private static void undoKeepsTheRest() {
        BargeLocks x = Checks.canal();
        Checks.type(x, "close 0");
        CHECKS.refused(x, "close(0)", x.close(0), 2);
        x.setClearance(20);
        x.keep(1);
        x.setClearance(30);
        CHECKS.refused(x, "open(0, 0)", x.open(0, 0), 3);
        x.undo();
        x.undo();
        CHECKS.due("count(7)", x.count(7), 3);
        CHECKS.due("count(9)", x.count(9), 7);
        CHECKS.due("count(6)", x.count(6), 10);
        CHECKS.due("restore(1)", x.restore(1), 0);
        CHECKS.due("count(6) behind restore", x.count(6), 20);
        CHECKS.due("count(7) behind restore", x.count(7), 3);
        BargeLocks y = Checks.unsettledCanal();
        y.setClearance(20);
        y.undo();
        CHECKS.dueWaters(y, "behind undo", 1080, 1950, 970);
        CHECKS.due("count(6) behind undo", y.count(6), 10);
        CHECKS.due("chamber(1, 8) behind undo", y.chamber(1, 8), 0);
    }

    private static void keep() {
        CHECKS.promise(20, "keep");
        BargeLocks x = Checks.openCanal();
        CHECKS.due("count(8) before", x.count(8), 5);
        CHECKS.due("undo()", x.undo(), 4);
        CHECKS.due("keep(0)", x.keep(0), 3);
        CHECKS.due("count(8)", x.count(8), 4);
        for (int slot : UNKNOWN_SLOTS) {
            CHECKS.due("keep(" + slot + ")", x.keep(slot), BargeLocks.UNKNOWN);
        }
        CHECKS.due("restore(1)", x.restore(1), BargeLocks.NONE);
        x.addBarge(1, 10, 20, 2, 30);
        CHECKS.due("keep(0) in place of it", x.keep(0), 4);
        String kept = Checks.state(x);
        x.undo();
        x.undo();
        CHECKS.due("keep(1)", x.keep(1), 3);
        CHECKS.due("restore(0)", x.restore(0), 4);
        CHECKS.due("the state", Checks.state(x), kept);
        CHECKS.due("restore(1) then", x.restore(1), 3);
        BargeLocks y = Checks.unsettledCanal();
        y.keep(0);
        CHECKS.dueWaters(y, "behind keep", 1080, 1950, 970);
    }

    private static void restore() {
        CHECKS.promise(21, "restore");
        BargeLocks x = Checks.openCanal();
        x.enter(0, 0);
        x.undo();
        String before = Checks.everything(x);
        CHECKS.due("restore(0)", x.restore(0), BargeLocks.NONE);
        CHECKS.due("restore(1)", x.restore(1), BargeLocks.NONE);
        for (int slot : UNKNOWN_SLOTS) {
            CHECKS.due("restore(" + slot + ")", x.restore(slot), BargeLocks.UNKNOWN);
        }
        CHECKS.due("the state", Checks.everything(x), before);
    }

    private static void restoreOfKept() {
        BargeLocks x = Checks.openCanal();
        x.enter(0, 0);
        x.keep(1);
        String kept = Checks.state(x);
        x.leave(0, 0);
        x.addBarge(1, 10, 20, 2, 30);
        x.close(0);
        String changed = Checks.state(x);
        CHECKS.due("restore(1) of what is kept", x.restore(1), 3);
        CHECKS.due("the state that was kept", Checks.state(x), kept);
        CHECKS.due("undo() of restore(1)", x.undo(), 4);
        CHECKS.due("the state behind undo()", Checks.state(x), changed);
        x.restore(1);
        x.leave(0, 0);
        CHECKS.due("restore(1) behind a change", x.restore(1), 3);
        CHECKS.due("the slot's state", Checks.state(x), kept);
    }

    private static void restoreDoesNotShare() {
        BargeLocks x = Checks.unsettledCanal();
        x.keep(0);
        x.setClearance(10);
        CHECKS.due("restore(0)", x.restore(0), 1);
        CHECKS.dueWaters(x, "behind restore", 1080, 1950, 970);
    }

    /** Behind undo, another canal can be built; each state still brings back all of its own. */
    private static void otherCanals() {
        BargeLocks x = new BargeLocks();
        x.addReach(1000, 10, 3000);
        x.addChamber(500, 40, 20, 1000, 30, 4000);
        x.addBarge(0, 20, 100, 2, 300);
        x.keep(0);
        String first = Checks.state(x);
        x.undo();
        x.undo();
        x.undo();
        CHECKS.due("count(0) behind all undos", x.count(0), 0);
        x.addReach(2000, 11, 3001);
        x.addChamber(600, 50, 21, 2000, 31, 4001);
        x.addBarge(0, 21, 110, 3, 310);
        String second = Checks.state(x);
        CHECKS.due("restore(0) of the first canal", x.restore(0), 1);
        CHECKS.due("the first canal", Checks.state(x), first);
        x.undo();
        CHECKS.due("the second canal", Checks.state(x), second);
    }

    /** The ring of states turns many times. */
    private static void longHistory() {
        BargeLocks x = Checks.canal();
        for (int i = 0; i < 100; i++) {
            x.supply(0, 1);
            x.supply(0, 1);
            x.undo();
        }
        CHECKS.due("account(4)", x.account(4), 100);
        for (int i = 99; i >= 96; i--) {
            x.undo();
            CHECKS.due("account(4) behind undo", x.account(4), i);
        }
    }
}
