/** Tests of promises 11 to 15: locking. */
public final class LockingTests {
    private static final Checks CHECKS = new Checks();
    private static final int[] EXTREMES = {Integer.MIN_VALUE, Integer.MAX_VALUE};
    private static final int[][] UNKNOWN_GATES = {
        {-1, 0}, {1, 0}, {4, 0}, {0, -1}, {0, 2}, {Integer.MIN_VALUE, 1}, {0, Integer.MAX_VALUE},
    };

    public static void main(String[] args) {
        sluice();
        sluiceBounds();
        sluiceOthersShare();
        open();
        openTolerance();
        close();
        closeShares();
        enter();
        enterRefusals();
        enterLowestReason();
        enterAground();
        enterDepth();
        leave();
        leaveRefusals();
        stack();
        passagesAndMud();
        CHECKS.end();
    }

    private static void sluice() {
        CHECKS.promise(11, "sluice");
        BargeLocks x = new BargeLocks();
        x.addReach(1000, 0, 3000);
        x.addChamber(500, 40, 100, 2000, 200, 8000);
        CHECKS.due("sluice(0, 0)", x.sluice(0, 0), 233);
        CHECKS.due("chamber(0, 1)", x.chamber(0, 1), 665);
        CHECKS.due("reach(0, 1)", x.reach(0, 1), 2335);
        CHECKS.due("sluice(0, 0) again", x.sluice(0, 0), 233);
        // t = 8665, h = (866500 + 50000 + 400000) / 2500 = 526, water = 500 * 426 / 100
        CHECKS.due("sluice(0, 1)", x.sluice(0, 1), 526);
        CHECKS.due("chamber(0, 1) then", x.chamber(0, 1), 2130);
        CHECKS.due("reach(1, 1) then", x.reach(1, 1), 6535);
        CHECKS.due("count(8)", x.count(8), 5);
        String before = Checks.everything(x);
        for (int[] at : UNKNOWN_GATES) {
            CHECKS.due("sluice(" + at[0] + ", " + at[1] + ")", x.sluice(at[0], at[1]), BargeLocks.UNKNOWN);
        }
        CHECKS.due("the state", Checks.everything(x), before);
        x.undo();
        CHECKS.due("chamber(0, 1) behind undo", x.chamber(0, 1), 665);
        CHECKS.due("reach(1, 1) behind undo", x.reach(1, 1), 8000);
        BargeLocks y = Checks.openCanal();
        before = Checks.everything(y);
        CHECKS.refused(y, "sluice(0, 0) by the open gate", y.sluice(0, 0), 1);
        CHECKS.refused(y, "sluice(0, 1) by the other one", y.sluice(0, 1), 1);
        CHECKS.due("the state by an open gate", Checks.everything(y), before);
    }

    /** The chamber gets at least 0, and at most all the water of both. */
    private static void sluiceBounds() {
        BargeLocks x = new BargeLocks();
        x.addReach(1000, 0, 3000);
        x.addChamber(500, 40, 900, 100, 5000, 10);
        CHECKS.due("sluice to a high chamber", x.sluice(0, 0), 900);
        CHECKS.due("chamber(0, 1)", x.chamber(0, 1), 0);
        CHECKS.due("reach(0, 1)", x.reach(0, 1), 3000);
        CHECKS.due("sluice from a high reach", x.sluice(0, 1), 902);
        CHECKS.due("chamber(0, 1) then", x.chamber(0, 1), 10);
        CHECKS.due("reach(1, 1) then", x.reach(1, 1), 0);
        CHECKS.due("sluice to a low reach", x.sluice(0, 0), 900);
        CHECKS.due("reach(0, 1) then", x.reach(0, 1), 3010);
        BargeLocks y = Checks.openCanal();
        y.enter(0, 0);
        drain(y);
        // t = 55 + 190, h = 24500 / 1500 = 16, and 500 * 16 / 100 is less than what floats.
        CHECKS.due("chamber(0, 1) where barges float", y.chamber(0, 1), 0);
        CHECKS.due("reach(0, 1) where barges float", y.reach(0, 1), 55);
        CHECKS.due("flow(0, 0) where barges float", y.flow(0, 0), 0);
    }

    /** Takes the water of the reach 0 three times, by the open gate 0: 2945 in all. */
    private static void drain(BargeLocks x) {
        for (int i = 0; i < 3; i++) {
            x.supply(0, -x.reach(0, 1));
        }
    }

    private static void sluiceOthersShare() {
        BargeLocks x = Checks.doubleCanal();
        x.close(1);
        x.supply(2, 1000);
        // 1: t = 4750, h = 316, the chamber 1 gets 1580; then the chamber 0 shares as before.
        CHECKS.due("sluice(1, 1)", x.sluice(1, 1), 316);
        CHECKS.dueWaters(x, "behind sluice(1, 1)", 750, 1500, 1580);
        // 2: t = 3080, h = 205, the chamber 1 gets 1025, the reach 2055; then h = 2805 / 15 = 187.
        CHECKS.due("sluice(1, 0)", x.sluice(1, 0), 205);
        CHECKS.dueWaters(x, "behind sluice(1, 0)", 935, 1870, 1025);
    }

    private static void open() {
        CHECKS.promise(12, "open");
        BargeLocks x = Checks.canal();
        CHECKS.refused(x, "open(0, 0) at different levels", x.open(0, 0), 3);
        CHECKS.due("chamber(0, 8)", x.chamber(0, 8), BargeLocks.NONE);
        x.sluice(0, 0);
        CHECKS.refused(x, "open(0, 1) at different levels", x.open(0, 1), 3);
        CHECKS.due("count(8)", x.count(8), 3);
        CHECKS.due("open(0, 0)", x.open(0, 0), 200);
        CHECKS.due("chamber(0, 8) then", x.chamber(0, 8), 0);
        CHECKS.due("count(3)", x.count(3), 1);
        String before = Checks.everything(x);
        CHECKS.refused(x, "open(0, 0) again", x.open(0, 0), 1);
        CHECKS.refused(x, "open(0, 1) at different levels, by an open gate", x.open(0, 1), 1);
        for (int[] at : UNKNOWN_GATES) {
            CHECKS.due("open(" + at[0] + ", " + at[1] + ")", x.open(at[0], at[1]), BargeLocks.UNKNOWN);
        }
        CHECKS.due("the state", Checks.everything(x), before);
        x.undo();
        CHECKS.due("chamber(0, 8) behind undo", x.chamber(0, 8), BargeLocks.NONE);
        x.sluice(0, 1);
        CHECKS.due("open(0, 1)", x.open(0, 1), x.chamber(0, 0));
        CHECKS.due("chamber(0, 8) at last", x.chamber(0, 8), 1);
    }

    private static void openTolerance() {
        int[][] supplied = {{20, 201}, {-20, 198}, {30, 0}, {-30, 0}, {29, 201}, {-21, 0}};
        for (int[] by : supplied) {
            BargeLocks x = Checks.canal();
            x.sluice(0, 0);
            x.supply(0, by[0]);
            String what = "open(0, 0) after supply(0, " + by[0] + ")";
            if (by[1] == 0) {
                CHECKS.refused(x, what, x.open(0, 0), 3);
            } else {
                CHECKS.due(what, x.open(0, 0), by[1]);
            }
        }
    }

    private static void close() {
        CHECKS.promise(13, "close");
        BargeLocks x = Checks.openCanal();
        CHECKS.due("close(0)", x.close(0), 0);
        CHECKS.due("chamber(0, 8)", x.chamber(0, 8), BargeLocks.NONE);
        CHECKS.due("count(3)", x.count(3), 0);
        String before = Checks.everything(x);
        CHECKS.refused(x, "close(0) again", x.close(0), 2);
        for (int chamber : new int[] {-1, 1, EXTREMES[0], EXTREMES[1]}) {
            CHECKS.due("close(" + chamber + ")", x.close(chamber), BargeLocks.UNKNOWN);
        }
        CHECKS.due("the state", Checks.everything(x), before);
        x.undo();
        CHECKS.due("chamber(0, 8) behind undo", x.chamber(0, 8), 0);
        x.close(0);
        x.sluice(0, 1);
        x.open(0, 1);
        CHECKS.due("close(0) of the gate 1", x.close(0), 1);
    }

    private static void closeShares() {
        BargeLocks x = Checks.unsettledCanal();
        CHECKS.due("close(0) while waters flow", x.close(0), 1);
        // The chamber 1 alone: t = 2920, as it was when it shared last.
        CHECKS.dueWaters(x, "behind close(0)", 1080, 1950, 970);
        BargeLocks y = Checks.unsettledCanal();
        CHECKS.due("close(1) while waters flow", y.close(1), 0);
        // The chamber 0 alone: t = 3030.
        CHECKS.dueWaters(y, "behind close(1)", 1010, 2020, 970);
    }

    private static void enter() {
        CHECKS.promise(14, "enter");
        BargeLocks x = Checks.openCanal();
        CHECKS.due("chamber(0, 0)", x.chamber(0, 0), 212);
        CHECKS.due("enter(0, 0)", x.enter(0, 0), 20);
        CHECKS.due("barge(0, 7)", x.barge(0, 7), 100);
        CHECKS.due("barge(0, 8)", x.barge(0, 8), 1);
        CHECKS.due("chamber(0, 1)", x.chamber(0, 1), 960);
        CHECKS.due("chamber(0, 2)", x.chamber(0, 2), 100);
        CHECKS.due("chamber(0, 3)", x.chamber(0, 3), 1);
        CHECKS.due("chamber(0, 7)", x.chamber(0, 7), 20);
        CHECKS.due("chamber(0, 11)", x.chamber(0, 11), 1);
        CHECKS.due("chamber(0, 12)", x.chamber(0, 12), 0);
        CHECKS.due("reach(0, 1)", x.reach(0, 1), 2040);
        CHECKS.due("reach(0, 2)", x.reach(0, 2), 90);
        CHECKS.due("reach(0, 3)", x.reach(0, 3), 2);
        CHECKS.due("count(5)", x.count(5), 1);
        CHECKS.due("enter(2, 0)", x.enter(2, 0), 10);
        CHECKS.due("lying(0, 0)", x.lying(0, 0), 2);
        CHECKS.due("lying(0, 1)", x.lying(0, 1), 0);
        CHECKS.due("lying(0, 2)", x.lying(0, 2), BargeLocks.NONE);
        String before = Checks.everything(x);
        CHECKS.refused(x, "enter(1, 0), too long", x.enter(1, 0), 6);
        for (int bad : new int[] {-1, 3, EXTREMES[0], EXTREMES[1]}) {
            CHECKS.due("enter(" + bad + ", 0)", x.enter(bad, 0), BargeLocks.UNKNOWN);
            CHECKS.due("enter(1, " + bad + ")", x.enter(1, bad), BargeLocks.UNKNOWN);
        }
        CHECKS.due("the state", Checks.everything(x), before);
        x.undo();
        CHECKS.due("lying(0, 0) behind undo", x.lying(0, 0), 0);
        CHECKS.due("chamber(0, 7) behind undo", x.chamber(0, 7), 20);
        CHECKS.due("barge(2, 7) behind undo", x.barge(2, 7), 0);
        CHECKS.due("enter(1, 0) behind undo", x.enter(1, 0), 5);
    }

    private static void enterRefusals() {
        BargeLocks x = Checks.canal();
        x.addBarge(0, 40, 100, 2, 300);
        x.addBarge(1, 20, 100, 2, 300);
        CHECKS.refused(x, "enter(0, 0) by closed gates", x.enter(0, 0), 2);
        CHECKS.refused(x, "enter(1, 0) by closed gates", x.enter(1, 0), 2);
        x.sluice(0, 0);
        x.open(0, 0);
        CHECKS.refused(x, "enter(1, 0) from the other reach", x.enter(1, 0), 4);
        CHECKS.due("enter(0, 0) of just the length", x.enter(0, 0), 0);
        CHECKS.refused(x, "enter(0, 0) from the chamber", x.enter(0, 0), 4);
        x.close(0);
        CHECKS.refused(x, "enter(0, 0) from the chamber, by closed gates", x.enter(0, 0), 2);
        BargeLocks y = Checks.canal();
        y.addBarge(0, 41, 100, 2, 300);
        y.sluice(0, 0);
        y.open(0, 0);
        CHECKS.refused(y, "enter(0, 0) of one more", y.enter(0, 0), 6);
    }

    /** Of several reasons the lowest one is set, when those below it are mended one by one. */
    private static void enterLowestReason() {
        BargeLocks x = new BargeLocks();
        x.addReach(1000, 0, 300);
        x.addChamber(500, 10, 0, 1000, 0, 0);
        x.addBarge(0, 20, 500, 1, 300);
        x.addBarge(1, 20, 500, 1, 300);
        x.setSill(0, 0, 5000);
        CHECKS.refused(x, "enter(1, 0) for all reasons", x.enter(1, 0), 2);
        x.sluice(0, 0);
        CHECKS.due("open(0, 0)", x.open(0, 0), 53);
        CHECKS.refused(x, "enter(1, 0) for 4 to 7", x.enter(1, 0), 4);
        CHECKS.refused(x, "enter(0, 0) for 5 to 7", x.enter(0, 0), 5);
        x.supply(0, 7000);
        CHECKS.refused(x, "enter(0, 0) for 6 and 7", x.enter(0, 0), 6);
        x.addBarge(0, 10, 500, 1, 300);
        CHECKS.refused(x, "enter(2, 0) for 7", x.enter(2, 0), 7);
        x.supply(0, -x.reach(0, 1));
        CHECKS.refused(x, "enter(2, 0) for 5 and 7", x.enter(2, 0), 5);
    }

    /** Aground is what draws more than the depth of its water; to draw all of it is not. */
    private static void enterAground() {
        BargeLocks x = new BargeLocks();
        x.addReach(1000, 0, 1400);
        x.addChamber(500, 40, 0, 1000, 0, 0);
        x.addBarge(0, 20, 100, 1, 300);
        x.setClearance(0);
        // t = 1500, h = 100: the level 100 in both, and the draught 100.
        x.sluice(0, 0);
        x.open(0, 0);
        CHECKS.due("reach(0, 0)", x.reach(0, 0), 100);
        CHECKS.due("barge(0, 6)", x.barge(0, 6), 0);
        // t = 1494, h = 99, and the reach gets 999 of it: the depth 99.
        x.supply(0, -6);
        CHECKS.due("barge(0, 6) in less", x.barge(0, 6), 1);
        CHECKS.refused(x, "enter(0, 0)", x.enter(0, 0), 5);
        x.supply(0, 6);
        CHECKS.due("enter(0, 0) in just enough", x.enter(0, 0), 20);
        CHECKS.due("barge(0, 6) then", x.barge(0, 6), 0);
    }

    /** The level 212 less the sill is to be at least the draught, 50, plus the clearance. */
    private static void enterDepth() {
        BargeLocks x = Checks.openCanal();
        x.setSill(0, 1, 5000);
        x.setSill(0, 0, 153);
        CHECKS.refused(x, "enter(0, 0) over 153", x.enter(0, 0), 7);
        x.setSill(0, 0, 152);
        CHECKS.due("enter(0, 0) over 152", x.enter(0, 0), 20);
        x.undo();
        x.setClearance(11);
        CHECKS.refused(x, "enter(0, 0) with the clearance 11", x.enter(0, 0), 7);
        x.setClearance(0);
        x.setSill(0, 0, 162);
        CHECKS.due("enter(0, 0) over 162 without clearance", x.enter(0, 0), 20);
    }

    private static void leave() {
        CHECKS.promise(15, "leave");
        BargeLocks x = Checks.openCanal();
        x.enter(0, 0);
        x.enter(1, 0);
        CHECKS.due("leave(0, 0)", x.leave(0, 0), 1);
        CHECKS.due("barge(1, 7)", x.barge(1, 7), 0);
        CHECKS.due("barge(1, 8)", x.barge(1, 8), 2);
        CHECKS.due("chamber(0, 7)", x.chamber(0, 7), 20);
        CHECKS.due("chamber(0, 11)", x.chamber(0, 11), 3);
        x.undo();
        CHECKS.due("barge(1, 7) behind undo", x.barge(1, 7), 100);
        CHECKS.due("lying(0, 0) behind undo", x.lying(0, 0), 1);
        x.close(0);
        CHECKS.due("sluice(0, 1)", x.sluice(0, 1), 404);
        CHECKS.due("open(0, 1)", x.open(0, 1), 404);
        CHECKS.due("leave(0, 1)", x.leave(0, 1), 0);
        CHECKS.due("barge(0, 7) then", x.barge(0, 7), 1);
        CHECKS.due("chamber(0, 1) then", x.chamber(0, 1), 1960);
        CHECKS.due("reach(1, 1) then", x.reach(1, 1), 1940);
        CHECKS.due("reach(1, 2) then", x.reach(1, 2), 100);
        CHECKS.due("reach(1, 3) then", x.reach(1, 3), 1);
        CHECKS.due("chamber(0, 11) then", x.chamber(0, 11), 2);
        CHECKS.due("chamber(0, 12) then", x.chamber(0, 12), 1);
        CHECKS.due("leave(0, 1) of the last", x.leave(0, 1), 1);
        CHECKS.due("chamber(0, 7) at last", x.chamber(0, 7), 40);
        String before = Checks.everything(x);
        CHECKS.refused(x, "leave(0, 1) of none", x.leave(0, 1), 4);
        CHECKS.refused(x, "leave(0, 0) by the closed gate", x.leave(0, 0), 2);
        for (int[] at : UNKNOWN_GATES) {
            CHECKS.due("leave(" + at[0] + ", " + at[1] + ")", x.leave(at[0], at[1]), BargeLocks.UNKNOWN);
        }
        CHECKS.due("the state", Checks.everything(x), before);
    }

    private static void leaveRefusals() {
        BargeLocks x = Checks.openCanal();
        x.enter(0, 0);
        x.setSill(0, 0, 153);
        x.setSill(0, 1, 0);
        CHECKS.refused(x, "leave(0, 0) over 153", x.leave(0, 0), 7);
        CHECKS.refused(x, "leave(0, 1) by the closed gate", x.leave(0, 1), 2);
        drain(x);
        CHECKS.due("barge(0, 6)", x.barge(0, 6), 1);
        CHECKS.refused(x, "leave(0, 0) aground", x.leave(0, 0), 5);
        x.supply(0, 2945);
        x.setSill(0, 0, 152);
        CHECKS.due("leave(0, 0) over 152", x.leave(0, 0), 0);
        x.close(0);
        CHECKS.refused(x, "leave(0, 0) by closed gates", x.leave(0, 0), 2);
    }

    /** What enters by a gate lies next to it, and what lies next to a gate leaves by it. */
    private static void stack() {
        BargeLocks x = new BargeLocks();
        x.addReach(10000, 0, 30000);
        x.addChamber(500, 200, 0, 10000, 0, 30000);
        for (int i = 0; i < 12; i++) {
            x.addBarge(i % 2, 16, 10, 2, 10);
        }
        pass(x, 0, new int[] {0, 2, 4, 6});
        dueRow(x, "behind gate 0", "6 4 2 0");
        pass(x, 1, new int[] {1, 3, 5});
        dueRow(x, "behind gate 1", "6 4 2 0 1 3 5");
        CHECKS.due("leave(0, 1)", x.leave(0, 1), 5);
        pass(x, 0, new int[] {8, 10});
        dueRow(x, "behind gate 0 again", "10 8 6 4 2 0 1 3");
        CHECKS.due("leave(0, 0)", x.leave(0, 0), 10);
        pass(x, 1, new int[] {5, 7, 9, 11});
        dueRow(x, "behind gate 1 again", "8 6 4 2 0 1 3 5 7 9 11");
        CHECKS.due("chamber(0, 7)", x.chamber(0, 7), 24);
        pass(x, 0, new int[] {10});
        dueRow(x, "with all", "10 8 6 4 2 0 1 3 5 7 9 11");
        CHECKS.due("chamber(0, 7) with all", x.chamber(0, 7), 8);
        CHECKS.due("count(5)", x.count(5), 12);
        int[] order = {10, 8, 6, 4, 2, 0, 1, 3, 5, 7, 9, 11};
        for (int barge : order) {
            CHECKS.due("leave(0, 0) in order", x.leave(0, 0), barge);
        }
        CHECKS.due("chamber(0, 7) without any", x.chamber(0, 7), 200);
    }

    private static void pass(BargeLocks x, int gate, int[] barges) {
        if (x.chamber(0, 8) >= 0) {
            x.close(0);
        }
        x.sluice(0, gate);
        CHECKS.due("open(0, " + gate + ")", x.open(0, gate), x.chamber(0, 0));
        for (int barge : barges) {
            CHECKS.due("enter(" + barge + ", 0)", x.enter(barge, 0), x.chamber(0, 7));
        }
    }

    private static void dueRow(BargeLocks x, String when, String want) {
        StringBuilder row = new StringBuilder();
        for (int place = 0; x.lying(0, place) != BargeLocks.NONE; place++) {
            row.append(place == 0 ? "" : " ").append(x.lying(0, place));
        }
        CHECKS.due("the row " + when, row.toString(), want);
    }

    private static void passagesAndMud() {
        BargeLocks x = Checks.openCanal();
        x.setSill(0, 0, 136);
        // The barge 0 passes over at most 212 - 50 - 10 = 152, so over 16 of mud.
        for (int i = 1; i <= 136; i++) {
            int got = i % 2 == 1 ? x.enter(0, 0) : x.leave(0, 0);
            CHECKS.due("passage " + i, got, i % 2 == 1 ? 20 : 0);
            if (i % 8 == 7 || i % 8 == 0) {
                CHECKS.due("chamber(0, 9) behind passage " + i, x.chamber(0, 9), 136 + i / 8);
            }
        }
        CHECKS.refused(x, "the passage over too much mud", x.enter(0, 0), 7);
        CHECKS.due("chamber(0, 11)", x.chamber(0, 11), 136);
        CHECKS.due("chamber(0, 10)", x.chamber(0, 10), 0);
        CHECKS.due("barge(0, 8)", x.barge(0, 8), 136);
        CHECKS.due("dredge(0, 0)", x.dredge(0, 0), 17);
        CHECKS.due("enter(0, 0)", x.enter(0, 0), 20);
    }
}
