/** Tests of promises 22 to 29: what is told. */
public final class ToldTests {
    private static final Checks CHECKS = new Checks();
    private static final int[] EXTREMES = {Integer.MIN_VALUE, Integer.MAX_VALUE};

    public static void main(String[] args) {
        reach();
        chamber();
        lying();
        barge();
        margin();
        marginEdges();
        flow();
        account();
        count();
        CHECKS.end();
    }

    /** The open canal with the barge 1 behind the barge 0 in the chamber; 60 and 40 t in the barge 0. */
    private static BargeLocks told() {
        BargeLocks x = Checks.openCanal();
        x.load(0, 60);
        x.pump(0, 40);
        x.enter(0, 0);
        x.enter(1, 0);
        return x;
    }

    private static void reach() {
        CHECKS.promise(22, "reach");
        BargeLocks x = told();
        // t = 3000 + 190 + 60, h = 325000 / 1500 = 216, and the chamber holds 1080 with 260 afloat.
        int[][] want = {{217, 2140, 30, 1, 1000, 0}, {500, 3000, 0, 0, 1000, 200}};
        for (int reach = 0; reach < 2; reach++) {
            for (int what = 0; what < 6; what++) {
                CHECKS.due("reach(" + reach + ", " + what + ")", x.reach(reach, what), want[reach][what]);
            }
        }
        for (int bad : new int[] {-1, 6, EXTREMES[0], EXTREMES[1]}) {
            CHECKS.due("reach(0, " + bad + ")", x.reach(0, bad), BargeLocks.BAD_VALUE);
        }
        for (int bad : new int[] {-1, 2, EXTREMES[0], EXTREMES[1]}) {
            CHECKS.due("reach(" + bad + ", 0)", x.reach(bad, 0), BargeLocks.UNKNOWN);
            CHECKS.due("reach(" + bad + ", 9)", x.reach(bad, 9), BargeLocks.UNKNOWN);
        }
    }

    private static void chamber() {
        CHECKS.promise(23, "chamber");
        BargeLocks x = told();
        x.setSill(0, 0, 5);
        x.setSill(0, 1, 6);
        int[] want = {216, 820, 260, 2, 500, 0, 40, 5, 0, 5, 6, 2, 0};
        for (int what = 0; what < want.length; what++) {
            CHECKS.due("chamber(0, " + what + ")", x.chamber(0, what), want[what]);
        }
        for (int bad : new int[] {-1, 13, EXTREMES[0], EXTREMES[1]}) {
            CHECKS.due("chamber(0, " + bad + ")", x.chamber(0, bad), BargeLocks.BAD_VALUE);
        }
        for (int bad : new int[] {-1, 1, EXTREMES[0], EXTREMES[1]}) {
            CHECKS.due("chamber(" + bad + ", 0)", x.chamber(bad, 0), BargeLocks.UNKNOWN);
            CHECKS.due("chamber(" + bad + ", 13)", x.chamber(bad, 13), BargeLocks.UNKNOWN);
        }
        x.close(0);
        CHECKS.due("chamber(0, 8)", x.chamber(0, 8), BargeLocks.NONE);
        upperGate();
    }

    private static void upperGate() {
        BargeLocks x = Checks.canal();
        x.addBarge(1, 20, 100, 2, 300);
        x.sluice(0, 1);
        x.open(0, 1);
        for (int i = 0; i < 5; i++) {
            x.enter(0, 0);
            x.leave(0, 1);
        }
        int[] want = {BargeLocks.NONE, 0, 1, 0, 10};
        CHECKS.due("chamber(0, 8) at the gate 1", x.chamber(0, 8), 1);
        for (int i = 1; i < want.length; i++) {
            CHECKS.due("chamber(0, " + (8 + i) + ") at the gate 1", x.chamber(0, 8 + i), want[i]);
        }
    }

    private static void lying() {
        CHECKS.promise(24, "lying");
        BargeLocks x = told();
        CHECKS.due("lying(0, 0)", x.lying(0, 0), 1);
        CHECKS.due("lying(0, 1)", x.lying(0, 1), 0);
        for (int place : new int[] {2, 11, 12, 13, EXTREMES[1]}) {
            CHECKS.due("lying(0, " + place + ")", x.lying(0, place), BargeLocks.NONE);
        }
        CHECKS.due("lying(0, -1)", x.lying(0, -1), BargeLocks.BAD_VALUE);
        CHECKS.due("lying(0, " + EXTREMES[0] + ")", x.lying(0, EXTREMES[0]), BargeLocks.BAD_VALUE);
        for (int bad : new int[] {-1, 1, EXTREMES[0], EXTREMES[1]}) {
            CHECKS.due("lying(" + bad + ", 0)", x.lying(bad, 0), BargeLocks.UNKNOWN);
            CHECKS.due("lying(" + bad + ", -1)", x.lying(bad, -1), BargeLocks.UNKNOWN);
        }
        x.leave(0, 0);
        x.leave(0, 0);
        CHECKS.due("lying(0, 0) of none", x.lying(0, 0), BargeLocks.NONE);
    }

    private static void barge() {
        CHECKS.promise(25, "barge");
        BargeLocks x = told();
        int[][] want = {
            {20, 200, 100, 60, 40, 200, 0, 100, 1},
            {15, 60, 60, 0, 0, 100, 0, 100, 1},
            {10, 30, 10, 0, 0, 50, 0, 0, 0},
        };
        for (int barge = 0; barge < 3; barge++) {
            for (int what = 0; what < 9; what++) {
                CHECKS.due("barge(" + barge + ", " + what + ")", x.barge(barge, what), want[barge][what]);
            }
        }
        for (int bad : new int[] {-1, 9, EXTREMES[0], EXTREMES[1]}) {
            CHECKS.due("barge(0, " + bad + ")", x.barge(0, bad), BargeLocks.BAD_VALUE);
        }
        for (int bad : new int[] {-1, 3, EXTREMES[0], EXTREMES[1]}) {
            CHECKS.due("barge(" + bad + ", 0)", x.barge(bad, 0), BargeLocks.UNKNOWN);
            CHECKS.due("barge(" + bad + ", 9)", x.barge(bad, 9), BargeLocks.UNKNOWN);
        }
        x.addChamber(500, 40, 0, 1000, 5000, 0);
        x.addBarge(2, 10, 21, 2, 10);
        CHECKS.due("barge(3, 7)", x.barge(3, 7), 2);
        CHECKS.due("barge(3, 2), rounded up", x.barge(3, 2), 11);
        // The depth is 21 * 100 / 1000, whatever the floor is.
        CHECKS.due("barge(3, 6)", x.barge(3, 6), 1);
        x.supply(2, 88);
        CHECKS.due("barge(3, 6) in the depth 10", x.barge(3, 6), 1);
        x.supply(2, 1);
        CHECKS.due("barge(3, 6) in the depth 11", x.barge(3, 6), 0);
    }

    private static void margin() {
        CHECKS.promise(26, "margin");
        BargeLocks x = Checks.canal();
        x.sluice(0, 0);
        // In the reach 1, so that the chamber's level is 200; its weight is 110, its hold takes 275.
        x.addBarge(1, 20, 100, 2, 285);
        x.pump(0, 10);
        int[][] wants = {{0, 0, 275}, {0, 45, 200}, {10, 134, 2}, {10, 135, 0}, {10, 136, BargeLocks.NONE},
            {50, 95, 0}, {50, 96, BargeLocks.NONE}, {0, 5000, BargeLocks.NONE}};
        for (int[] want : wants) {
            x.setClearance(want[0]);
            x.setSill(0, 0, want[1]);
            CHECKS.due("margin by " + want[0] + " over " + want[1], x.margin(0, 0, 0), want[2]);
        }
        x.setClearance(10);
        CHECKS.due("margin at the gate 1", x.margin(0, 0, 1), 270);
        for (int bad : new int[] {-1, 1, EXTREMES[0], EXTREMES[1]}) {
            CHECKS.due("margin(" + bad + ", 0, 0)", x.margin(bad, 0, 0), BargeLocks.UNKNOWN);
            CHECKS.due("margin(0, " + bad + ", 0)", x.margin(0, bad, 0), BargeLocks.UNKNOWN);
        }
        for (int bad : new int[] {-1, 2, EXTREMES[0], EXTREMES[1]}) {
            CHECKS.due("margin(0, 0, " + bad + ")", x.margin(0, 0, bad), BargeLocks.UNKNOWN);
        }
    }

    private static void marginEdges() {
        BargeLocks x = Checks.canal();
        x.addBarge(0, 20, 100, 7, 1000);
        x.addBarge(0, 60, 500, 20, 10);
        // The chamber is empty, the clearance 10, the sills 0: less than 0 is left for a draught.
        CHECKS.due("margin of the empty chamber", x.margin(0, 0, 0), BargeLocks.NONE);
        x.sluice(0, 0);
        CHECKS.due("the level", x.chamber(0, 0), 240);
        x.setSill(0, 0, 201);
        // 240 - 201 - 10 = 29, and 29 * 7 = 203.
        CHECKS.due("margin of the immersion 7", x.margin(0, 0, 0), 103);
        x.load(0, 103);
        CHECKS.due("margin of 203 t", x.margin(0, 0, 0), 0);
        x.load(0, 1);
        CHECKS.due("margin of 204 t", x.margin(0, 0, 0), BargeLocks.NONE);
        CHECKS.due("margin of the hold", x.margin(1, 0, 0), 10);
        x.load(1, 10);
        CHECKS.due("margin of a full hold", x.margin(1, 0, 0), 0);
    }

    private static void flow() {
        CHECKS.promise(27, "flow");
        BargeLocks x = Checks.canal();
        CHECKS.due("flow(0, 0)", x.flow(0, 0), 1000);
        // h = (300000 + 200000) / 1500 = 333
        CHECKS.due("flow(0, 1)", x.flow(0, 1), 1665);
        x.sluice(0, 1);
        CHECKS.due("flow(0, 1) then", x.flow(0, 1), 0);
        // t = 4665, h = 311, 1555 - 1665
        CHECKS.due("flow(0, 0) then", x.flow(0, 0), -110);
        x.open(0, 1);
        CHECKS.due("flow(0, 0) by the open gate 1", x.flow(0, 0), -110);
        CHECKS.due("flow(0, 1) by the open gate 1", x.flow(0, 1), 0);
        String before = Checks.everything(x);
        int[][] unknown = {{-1, 0}, {1, 0}, {0, -1}, {0, 2}, {EXTREMES[0], 0}, {0, EXTREMES[1]}};
        for (int[] at : unknown) {
            CHECKS.due("flow(" + at[0] + ", " + at[1] + ")", x.flow(at[0], at[1]), BargeLocks.UNKNOWN);
        }
        CHECKS.due("the state", Checks.everything(x), before);
        x.addBarge(0, 20, 100, 2, 300);
        // t = 4765, h = 317, 1585 - 1665
        CHECKS.due("flow(0, 0) with a barge", x.flow(0, 0), -80);
    }

    private static void account() {
        CHECKS.promise(28, "account");
        BargeLocks x = told();
        x.supply(1, 500);
        x.supply(0, -200);
        x.pump(2, 7);
        long[] want = {6253, 47, 60, 297, 300, 6000, 2};
        for (int what = 0; what < want.length; what++) {
            CHECKS.due("account(" + what + ")", x.account(what), want[what]);
        }
        for (int bad : new int[] {-1, 7, EXTREMES[0], EXTREMES[1]}) {
            CHECKS.due("account(" + bad + ")", x.account(bad), BargeLocks.BAD_VALUE);
        }
        x.undo();
        x.undo();
        CHECKS.due("account(4) behind undo", x.account(4), 500);
        x.leave(0, 0);
        CHECKS.due("account(6) behind a third passage", x.account(6), 3);
    }

    private static void count() {
        CHECKS.promise(29, "count");
        BargeLocks x = told();
        x.setClearance(17);
        x.close(1);
        x.addChamber(500, 40, 0, 100, 0, 0);
        x.addBarge(2, 10, 500, 1, 10);
        x.supply(0, -1000001);
        x.supply(2, -1);
        Checks.type(x, "close");
        int[] want = {3, 2, 4, 1, 0, 2, 17, 8, 5, 5};
        for (int what = 0; what < want.length; what++) {
            CHECKS.due("count(" + what + ")", x.count(what), want[what]);
        }
        for (int bad : new int[] {-1, 10, EXTREMES[0], EXTREMES[1]}) {
            CHECKS.due("count(" + bad + ")", x.count(bad), BargeLocks.BAD_VALUE);
        }
        x.addChamber(500, 40, 0, 1000, 0, 0);
        x.addBarge(3, 10, 500, 1, 10);
        x.addBarge(3, 10, 10, 1, 10);
        CHECKS.due("count(4) with one aground", x.count(4), 1);
        CHECKS.due("UNKNOWN", BargeLocks.UNKNOWN, -100000001);
        CHECKS.due("BAD_VALUE", BargeLocks.BAD_VALUE, -100000002);
        CHECKS.due("REFUSED", BargeLocks.REFUSED, -100000003);
        CHECKS.due("FULL", BargeLocks.FULL, -100000004);
        CHECKS.due("NONE", BargeLocks.NONE, -100000005);
    }
}
