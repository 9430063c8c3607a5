/** Tests of promises 1 to 7: a new object, and the canal. */
public final class CanalTests {
    private static final Checks CHECKS = new Checks();
    private static final int[] EXTREMES = {Integer.MIN_VALUE, Integer.MAX_VALUE};

    public static void main(String[] args) {
        newObject();
        addReach();
        addReachLimits();
        addChamber();
        addChamberLimits();
        setSill();
        setClearance();
        dredge();
        supply();
        supplyLimits();
        supplyShares();
        CHECKS.end();
    }

    private static void newObject() {
        CHECKS.promise(1, "a new object");
        BargeLocks x = new BargeLocks();
        int[] counts = {0, 0, 0, 0, 0, 0, 10, 0, 0, 0};
        for (int what = 0; what < counts.length; what++) {
            CHECKS.due("count(" + what + ")", x.count(what), counts[what]);
        }
        for (int what = 0; what <= 6; what++) {
            CHECKS.due("account(" + what + ")", x.account(what), 0);
        }
        CHECKS.due("reach(0, 0)", x.reach(0, 0), BargeLocks.UNKNOWN);
        CHECKS.due("chamber(0, 0)", x.chamber(0, 0), BargeLocks.UNKNOWN);
        CHECKS.due("barge(0, 0)", x.barge(0, 0), BargeLocks.UNKNOWN);
        CHECKS.due("undo()", x.undo(), BargeLocks.NONE);
        CHECKS.due("restore(0)", x.restore(0), BargeLocks.NONE);
        CHECKS.due("restore(1)", x.restore(1), BargeLocks.NONE);
        CHECKS.due("clearText()", x.clearText(), 0);
        CHECKS.due("setClearance(10)", x.setClearance(10), 10);
        CHECKS.due("another object's count(8)", new BargeLocks().count(8), 0);
    }

    private static void addReach() {
        CHECKS.promise(2, "addReach");
        BargeLocks x = new BargeLocks();
        CHECKS.due("addReach(700, 30, 1000)", x.addReach(700, 30, 1000), 0);
        int[] told = {172, 1000, 0, 0, 700, 30};
        for (int what = 0; what < told.length; what++) {
            CHECKS.due("reach(0, " + what + ")", x.reach(0, what), told[what]);
        }
        CHECKS.due("count(0)", x.count(0), 1);
        CHECKS.due("count(1)", x.count(1), 0);
        CHECKS.due("account(5)", x.account(5), 1000);
        CHECKS.due("count(8)", x.count(8), 1);
        CHECKS.due("addReach again", x.addReach(700, 30, 1000), BargeLocks.FULL);
        CHECKS.due("addReach again, out of range", x.addReach(99, 0, 0), BargeLocks.BAD_VALUE);
        CHECKS.due("account(5) then", x.account(5), 1000);
        CHECKS.due("count(8) then", x.count(8), 1);
        CHECKS.due("undo()", x.undo(), 0);
        CHECKS.due("count(0) behind undo", x.count(0), 0);
        CHECKS.due("addReach behind undo", x.addReach(800, 0, 0), 0);
        CHECKS.due("account(5) behind undo", x.account(5), 0);
    }

    private static void addReachLimits() {
        int[] least = {100, 0, 0};
        int[] most = {100000, 5000, 10000000};
        for (int i = 0; i < 3; i++) {
            for (int bad : new int[] {least[i] - 1, most[i] + 1, EXTREMES[0], EXTREMES[1]}) {
                int[] v = {1000, 1000, 1000};
                v[i] = bad;
                BargeLocks x = new BargeLocks();
                String what = "addReach with " + bad + " at " + i;
                CHECKS.due(what, x.addReach(v[0], v[1], v[2]), BargeLocks.BAD_VALUE);
                CHECKS.due(what + ": count(8)", x.count(8), 0);
            }
        }
        CHECKS.due("addReach of the least", new BargeLocks().addReach(100, 0, 0), 0);
        BargeLocks x = new BargeLocks();
        CHECKS.due("addReach of the most", x.addReach(100000, 5000, 10000000), 0);
        CHECKS.due("its level", x.reach(0, 0), 15000);
    }

    private static void addChamber() {
        CHECKS.promise(3, "addChamber");
        BargeLocks x = new BargeLocks();
        CHECKS.due("without a reach", x.addChamber(500, 40, 100, 2000, 200, 8000), BargeLocks.FULL);
        CHECKS.due("bad, without a reach", x.addChamber(99, 40, 100, 2000, 200, 8000), BargeLocks.BAD_VALUE);
        CHECKS.due("count(8)", x.count(8), 0);
        x.addReach(1000, 0, 3000);
        CHECKS.due("the first chamber", x.addChamber(500, 40, 100, 2000, 200, 8000), 0);
        int[] told = {100, 0, 0, 0, 500, 100, 40, 40, BargeLocks.NONE, 0, 0, 0, 0};
        for (int what = 0; what < told.length; what++) {
            CHECKS.due("chamber(0, " + what + ")", x.chamber(0, what), told[what]);
        }
        int[] above = {600, 8000, 0, 0, 2000, 200};
        for (int what = 0; what < above.length; what++) {
            CHECKS.due("reach(1, " + what + ")", x.reach(1, what), above[what]);
        }
        CHECKS.due("account(5)", x.account(5), 11000);
        CHECKS.due("count(8)", x.count(8), 2);
        for (int number = 1; number <= 3; number++) {
            CHECKS.due("chamber " + number, x.addChamber(300, 20, 0, 400, 0, 0), number);
        }
        CHECKS.due("count(0)", x.count(0), 5);
        CHECKS.due("count(1)", x.count(1), 4);
        CHECKS.due("a fifth chamber", x.addChamber(300, 20, 0, 400, 0, 0), BargeLocks.FULL);
        CHECKS.due("a bad fifth one", x.addChamber(300, 9, 0, 400, 0, 0), BargeLocks.BAD_VALUE);
        CHECKS.due("reach(4, 4)", x.reach(4, 4), 400);
        CHECKS.due("reach(5, 4)", x.reach(5, 4), BargeLocks.UNKNOWN);
        CHECKS.due("chamber(4, 4)", x.chamber(4, 4), BargeLocks.UNKNOWN);
        x.undo();
        CHECKS.due("count(0) behind undo", x.count(0), 4);
        CHECKS.due("count(1) behind undo", x.count(1), 3);
        CHECKS.due("again", x.addChamber(300, 20, 0, 400, 0, 7), 3);
        CHECKS.due("account(5) again", x.account(5), 11007);
    }

    private static void addChamberLimits() {
        int[] least = {100, 10, 0, 100, 0, 0};
        int[] most = {100000, 200, 5000, 100000, 5000, 10000000};
        for (int i = 0; i < 6; i++) {
            for (int bad : new int[] {least[i] - 1, most[i] + 1, EXTREMES[0], EXTREMES[1]}) {
                int[] v = {1000, 100, 1000, 1000, 1000, 1000};
                v[i] = bad;
                BargeLocks x = new BargeLocks();
                x.addReach(1000, 0, 0);
                int got = x.addChamber(v[0], v[1], v[2], v[3], v[4], v[5]);
                CHECKS.due("addChamber with " + bad + " at " + i, got, BargeLocks.BAD_VALUE);
                CHECKS.due("count(1) then", x.count(1), 0);
                CHECKS.due("count(8) then", x.count(8), 1);
            }
        }
        BargeLocks x = new BargeLocks();
        x.addReach(1000, 0, 0);
        CHECKS.due("of the least", x.addChamber(100, 10, 0, 100, 0, 0), 0);
        CHECKS.due("of the most", x.addChamber(100000, 200, 5000, 100000, 5000, 10000000), 1);
        BargeLocks y = Checks.unsettledCanal();
        CHECKS.due("while waters flow", y.addChamber(100, 10, 0, 100, 0, 0), 2);
        CHECKS.dueWatersShared(y, "behind it");
    }

    private static void setSill() {
        CHECKS.promise(4, "setSill");
        BargeLocks x = Checks.canal();
        CHECKS.due("setSill(0, 0, 120)", x.setSill(0, 0, 120), 0);
        CHECKS.due("setSill(0, 0, 5000)", x.setSill(0, 0, 5000), 120);
        CHECKS.due("setSill(0, 0, 0)", x.setSill(0, 0, 0), 5000);
        CHECKS.due("setSill(0, 1, 7)", x.setSill(0, 1, 7), 0);
        CHECKS.due("chamber(0, 9)", x.chamber(0, 9), 0);
        CHECKS.due("chamber(0, 10)", x.chamber(0, 10), 7);
        String before = Checks.everything(x);
        for (int bad : new int[] {-1, 5001, EXTREMES[0], EXTREMES[1]}) {
            CHECKS.due("setSill(0, 1, " + bad + ")", x.setSill(0, 1, bad), BargeLocks.BAD_VALUE);
        }
        int[][] unknown = {{-1, 0}, {1, 0}, {0, -1}, {0, 2}, {EXTREMES[0], 0}, {0, EXTREMES[1]}};
        for (int[] at : unknown) {
            String what = "setSill(" + at[0] + ", " + at[1] + ", ..)";
            CHECKS.due(what, x.setSill(at[0], at[1], 3), BargeLocks.UNKNOWN);
            CHECKS.due(what + " of -1", x.setSill(at[0], at[1], -1), BargeLocks.UNKNOWN);
        }
        CHECKS.due("the state", Checks.everything(x), before);
        x.undo();
        CHECKS.due("chamber(0, 10) behind undo", x.chamber(0, 10), 0);
        BargeLocks y = Checks.unsettledCanal();
        CHECKS.due("setSill(1, 1, 8) while waters flow", y.setSill(1, 1, 8), 0);
        CHECKS.dueWatersShared(y, "behind it");
        withMud();
    }

    /** The own height is told and set without the mud. */
    private static void withMud() {
        BargeLocks x = muddyCanal();
        CHECKS.due("setSill over mud", x.setSill(0, 0, 30), 20);
        CHECKS.due("chamber(0, 9)", x.chamber(0, 9), 31);
    }

    private static void setClearance() {
        CHECKS.promise(5, "setClearance");
        BargeLocks x = Checks.canal();
        CHECKS.due("setClearance(0)", x.setClearance(0), 10);
        CHECKS.due("setClearance(50)", x.setClearance(50), 0);
        String before = Checks.everything(x);
        for (int bad : new int[] {-1, 51, EXTREMES[0], EXTREMES[1]}) {
            CHECKS.due("setClearance(" + bad + ")", x.setClearance(bad), BargeLocks.BAD_VALUE);
        }
        CHECKS.due("the state", Checks.everything(x), before);
        CHECKS.due("count(6)", x.count(6), 50);
        x.undo();
        CHECKS.due("count(6) behind undo", x.count(6), 0);
        BargeLocks y = Checks.unsettledCanal();
        CHECKS.due("setClearance(10) while waters flow", y.setClearance(10), 10);
        CHECKS.dueWatersShared(y, "behind it");
    }

    /** The open canal after 8 passages by the gate 0, with the own height 20 of its sill. */
    private static BargeLocks muddyCanal() {
        BargeLocks x = Checks.openCanal();
        x.setSill(0, 0, 20);
        for (int i = 0; i < 4; i++) {
            x.enter(0, 0);
            x.leave(0, 0);
        }
        return x;
    }

    private static void dredge() {
        CHECKS.promise(6, "dredge");
        BargeLocks x = muddyCanal();
        CHECKS.due("chamber(0, 9)", x.chamber(0, 9), 21);
        CHECKS.due("dredge(0, 1)", x.dredge(0, 1), BargeLocks.NONE);
        CHECKS.due("dredge(0, 0)", x.dredge(0, 0), 1);
        CHECKS.due("chamber(0, 9) then", x.chamber(0, 9), 20);
        CHECKS.due("chamber(0, 11) then", x.chamber(0, 11), 8);
        String before = Checks.everything(x);
        CHECKS.due("dredge(0, 0) again", x.dredge(0, 0), BargeLocks.NONE);
        int[][] unknown = {{-1, 0}, {1, 0}, {0, -1}, {0, 2}, {EXTREMES[0], 0}, {0, EXTREMES[1]}};
        for (int[] at : unknown) {
            CHECKS.due("dredge(" + at[0] + ", " + at[1] + ")", x.dredge(at[0], at[1]), BargeLocks.UNKNOWN);
        }
        CHECKS.due("the state", Checks.everything(x), before);
        x.undo();
        CHECKS.due("chamber(0, 9) behind undo", x.chamber(0, 9), 21);
        for (int i = 0; i < 8; i++) {
            x.enter(0, 0);
            x.leave(0, 0);
        }
        CHECKS.due("dredge(0, 0) after 24 passages", x.dredge(0, 0), 3);
        dredgeShares();
        noneDoesNotShare();
    }

    /** The act shares as another one does that is tested by itself. */
    private static void dredgeShares() {
        BargeLocks x = muddyDoubleCanal();
        BargeLocks y = muddyDoubleCanal();
        CHECKS.due("dredge(1, 0) while waters flow", x.dredge(1, 0), 1);
        y.setClearance(10);
        CHECKS.due("chamber(0, 1) is shared", x.chamber(0, 1) != muddyDoubleCanal().chamber(0, 1) ? 1 : 0, 1);
        CHECKS.dueWaters(x, "behind it", y.chamber(0, 1), y.reach(1, 1), y.chamber(1, 1));
    }

    private static BargeLocks muddyDoubleCanal() {
        BargeLocks x = Checks.doubleCanal();
        x.addBarge(1, 10, 100, 5, 300);
        for (int i = 0; i < 4; i++) {
            CHECKS.due("enter(1, 1)", x.enter(1, 1), 30);
            CHECKS.due("barge(1, 7)", x.barge(1, 7), 101);
            CHECKS.due("leave(1, 0)", x.leave(1, 0), 1);
        }
        x.supply(1, 1000);
        return x;
    }

    private static void noneDoesNotShare() {
        BargeLocks x = Checks.unsettledCanal();
        CHECKS.due("dredge(0, 0) while waters flow", x.dredge(0, 0), BargeLocks.NONE);
        CHECKS.dueWaters(x, "behind it", 1080, 1950, 970);
    }

    private static void supply() {
        CHECKS.promise(7, "supply");
        BargeLocks x = Checks.canal();
        CHECKS.due("supply(0, 509)", x.supply(0, 509), 350);
        CHECKS.due("supply(0, -9)", x.supply(0, -9), 350);
        CHECKS.due("supply(1, -3000)", x.supply(1, -3000), 200);
        CHECKS.due("supply(1, 0)", x.supply(1, 0), 200);
        CHECKS.due("account(4)", x.account(4), -2500);
        CHECKS.due("account(0)", x.account(0), 3500);
        CHECKS.due("account(5)", x.account(5), 6000);
        CHECKS.due("count(8)", x.count(8), 5);
        String before = Checks.everything(x);
        CHECKS.refused(x, "supply(1, -1)", x.supply(1, -1), 8);
        CHECKS.refused(x, "supply(0, -3501)", x.supply(0, -3501), 8);
        for (int bad : new int[] {-1000001, 1000001, EXTREMES[0], EXTREMES[1]}) {
            CHECKS.due("supply(0, " + bad + ")", x.supply(0, bad), BargeLocks.BAD_VALUE);
        }
        for (int reach : new int[] {-1, 2, EXTREMES[0], EXTREMES[1]}) {
            CHECKS.due("supply(" + reach + ", 1)", x.supply(reach, 1), BargeLocks.UNKNOWN);
            CHECKS.due("supply(" + reach + ", bad)", x.supply(reach, 1000001), BargeLocks.UNKNOWN);
        }
        CHECKS.due("the state", Checks.everything(x), before);
        x.undo();
        x.undo();
        CHECKS.due("account(4) behind undo", x.account(4), 500);
        CHECKS.due("supply(0, -3500)", x.supply(0, -3500), 0);
    }

    private static void supplyLimits() {
        BargeLocks x = new BargeLocks();
        x.addReach(100, 0, 10000000);
        for (int i = 1; i <= 90; i++) {
            CHECKS.due("supply " + i, x.supply(0, 1000000), 10000000L + i * 1000000L);
        }
        CHECKS.refused(x, "supply over the most", x.supply(0, 1), 8);
        CHECKS.due("reach(0, 1)", x.reach(0, 1), 100000000);
        CHECKS.due("account(4)", x.account(4), 90000000);
        CHECKS.due("supply(0, -1000000)", x.supply(0, -1000000), 99000000);
        CHECKS.due("supply up to the most", x.supply(0, 1000000), 100000000);
    }

    private static void supplyShares() {
        BargeLocks x = Checks.doubleCanal();
        CHECKS.dueWaters(x, "at first", 750, 1500, 750);
        CHECKS.due("supply(1, 1000) by open gates", x.supply(1, 1000), 195);
        CHECKS.dueWaters(x, "then", 1080, 1950, 970);
        CHECKS.refused(x, "supply(1, -1951)", x.supply(1, -1951), 8);
        CHECKS.dueWaters(x, "behind the refusal", 1080, 1950, 970);
    }
}
