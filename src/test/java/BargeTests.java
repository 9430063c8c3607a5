/** Tests of promises 8 to 10: barges. */
public final class BargeTests {
    private static final Checks CHECKS = new Checks();
    private static final int[] EXTREMES = {Integer.MIN_VALUE, Integer.MAX_VALUE};

    public static void main(String[] args) {
        addBarge();
        addBargeLimits();
        addBargeShares();
        load();
        loadRefusals();
        loadShares();
        pump();
        pumpRefusals();
        pumpInChamber();
        CHECKS.end();
    }

    private static void addBarge() {
        CHECKS.promise(8, "addBarge");
        BargeLocks x = Checks.canal();
        CHECKS.due("addBarge", x.addBarge(1, 20, 101, 2, 300), 0);
        int[] told = {20, 101, 51, 0, 0, 300, 0, 1, 0};
        for (int what = 0; what < told.length; what++) {
            CHECKS.due("barge(0, " + what + ")", x.barge(0, what), told[what]);
        }
        CHECKS.due("reach(1, 0)", x.reach(1, 0), 510);
        CHECKS.due("reach(1, 2)", x.reach(1, 2), 101);
        CHECKS.due("reach(1, 3)", x.reach(1, 3), 1);
        CHECKS.due("reach(1, 1)", x.reach(1, 1), 3000);
        for (int number = 1; number < 12; number++) {
            CHECKS.due("barge " + number, x.addBarge(0, 5, 10, 1, 10), number);
        }
        CHECKS.due("count(2)", x.count(2), 12);
        String before = Checks.everything(x);
        CHECKS.due("a thirteenth", x.addBarge(0, 5, 10, 1, 10), BargeLocks.FULL);
        CHECKS.due("a bad thirteenth", x.addBarge(0, 4, 10, 1, 10), BargeLocks.BAD_VALUE);
        CHECKS.due("one nowhere", x.addBarge(2, 4, 10, 1, 10), BargeLocks.UNKNOWN);
        CHECKS.due("the state", Checks.everything(x), before);
        x.undo();
        CHECKS.due("count(2) behind undo", x.count(2), 11);
        CHECKS.due("reach(0, 3) behind undo", x.reach(0, 3), 10);
        CHECKS.due("again", x.addBarge(1, 60, 500, 20, 1000), 11);
        CHECKS.due("reach(1, 2) again", x.reach(1, 2), 601);
    }

    private static void addBargeLimits() {
        int[] least = {0, 5, 10, 1, 10};
        int[] most = {1, 60, 500, 20, 1000};
        for (int i = 0; i < 5; i++) {
            for (int bad : new int[] {least[i] - 1, most[i] + 1, EXTREMES[0], EXTREMES[1]}) {
                int[] v = {0, 20, 100, 2, 300};
                v[i] = bad;
                BargeLocks x = Checks.canal();
                int want = i == 0 ? BargeLocks.UNKNOWN : BargeLocks.BAD_VALUE;
                CHECKS.due("addBarge with " + bad + " at " + i, x.addBarge(v[0], v[1], v[2], v[3], v[4]), want);
                CHECKS.due("count(2) then", x.count(2), 0);
                CHECKS.due("count(8) then", x.count(8), 2);
            }
        }
        BargeLocks x = Checks.canal();
        CHECKS.due("addBarge of the least", x.addBarge(0, 5, 10, 1, 10), 0);
        CHECKS.due("addBarge of the most", x.addBarge(1, 60, 500, 20, 1000), 1);
        CHECKS.due("on a canal without reaches", new BargeLocks().addBarge(0, 5, 10, 1, 10), BargeLocks.UNKNOWN);
    }

    private static void addBargeShares() {
        BargeLocks x = Checks.doubleCanal();
        // 300 t more float in 2250 m3 of the lower chamber and the reach 1: h = 170, then 163.
        x.addBarge(1, 10, 300, 5, 300);
        CHECKS.dueWaters(x, "behind addBarge", 850, 1335, 815);
    }

    private static void load() {
        CHECKS.promise(9, "load");
        BargeLocks x = Checks.canal();
        x.addBarge(0, 20, 100, 7, 300);
        CHECKS.due("load(0, 5)", x.load(0, 5), 15);
        CHECKS.due("load(0, 1)", x.load(0, 1), 16);
        CHECKS.due("load(0, 294)", x.load(0, 294), 58);
        CHECKS.due("barge(0, 3)", x.barge(0, 3), 300);
        CHECKS.due("barge(0, 5)", x.barge(0, 5), 0);
        CHECKS.due("barge(0, 1)", x.barge(0, 1), 400);
        CHECKS.due("reach(0, 0)", x.reach(0, 0), 340);
        CHECKS.due("reach(0, 1)", x.reach(0, 1), 3000);
        CHECKS.due("reach(0, 2)", x.reach(0, 2), 400);
        CHECKS.due("account(2)", x.account(2), 300);
        CHECKS.due("count(8)", x.count(8), 5);
        CHECKS.due("load(0, -300)", x.load(0, -300), 15);
        CHECKS.due("reach(0, 2) then", x.reach(0, 2), 100);
        x.undo();
        CHECKS.due("barge(0, 3) behind undo", x.barge(0, 3), 300);
        CHECKS.due("reach(0, 2) behind undo", x.reach(0, 2), 400);
    }

    private static void loadRefusals() {
        BargeLocks x = Checks.openCanal();
        x.addBarge(0, 20, 100, 2, 1000);
        CHECKS.due("load(3, 1000)", x.load(3, 1000), 550);
        CHECKS.due("load(3, -1000)", x.load(3, -1000), 50);
        x.pump(0, 100);
        x.load(0, 150);
        String before = Checks.everything(x);
        CHECKS.refused(x, "load(0, 51)", x.load(0, 51), 8);
        CHECKS.refused(x, "load(0, -151)", x.load(0, -151), 8);
        for (int bad : new int[] {0, -1001, 1001, EXTREMES[0], EXTREMES[1]}) {
            CHECKS.due("load(0, " + bad + ")", x.load(0, bad), BargeLocks.BAD_VALUE);
        }
        for (int barge : new int[] {-1, 4, EXTREMES[0], EXTREMES[1]}) {
            CHECKS.due("load(" + barge + ", 1)", x.load(barge, 1), BargeLocks.UNKNOWN);
            CHECKS.due("load(" + barge + ", 0)", x.load(barge, 0), BargeLocks.UNKNOWN);
        }
        CHECKS.due("the state", Checks.everything(x), before);
        CHECKS.due("load(0, 50)", x.load(0, 50), 200);
        CHECKS.due("load(0, -200)", x.load(0, -200), 100);
        x.setClearance(0);
        CHECKS.due("enter(1, 0)", x.enter(1, 0), 25);
        CHECKS.refused(x, "load(1, 1) in a chamber", x.load(1, 1), 4);
        CHECKS.refused(x, "load(1, 101) in a chamber", x.load(1, 101), 4);
        CHECKS.due("load(1, 0) in a chamber", x.load(1, 0), BargeLocks.BAD_VALUE);
    }

    private static void loadShares() {
        BargeLocks x = Checks.unsettledCanal();
        CHECKS.due("load(0, 1) while waters flow", x.load(0, 1), 21);
        CHECKS.dueWatersShared(x, "behind it");
        CHECKS.refused(x, "load(0, 300)", x.load(0, 300), 8);
        CHECKS.dueWatersShared(x, "behind the refusal");
    }

    private static void pump() {
        CHECKS.promise(10, "pump");
        BargeLocks x = Checks.canal();
        x.addBarge(0, 20, 100, 7, 300);
        CHECKS.due("pump(0, 6)", x.pump(0, 6), 16);
        CHECKS.due("pump(0, 294)", x.pump(0, 294), 58);
        CHECKS.due("barge(0, 4)", x.barge(0, 4), 300);
        CHECKS.due("barge(0, 3)", x.barge(0, 3), 0);
        CHECKS.due("reach(0, 0)", x.reach(0, 0), 310);
        CHECKS.due("reach(0, 1)", x.reach(0, 1), 2700);
        CHECKS.due("reach(0, 2)", x.reach(0, 2), 400);
        CHECKS.due("account(0)", x.account(0), 5700);
        CHECKS.due("account(1)", x.account(1), 300);
        CHECKS.due("pump(0, -299)", x.pump(0, -299), 15);
        CHECKS.due("reach(0, 1) then", x.reach(0, 1), 2999);
        CHECKS.due("count(8)", x.count(8), 5);
        x.undo();
        CHECKS.due("barge(0, 4) behind undo", x.barge(0, 4), 300);
        CHECKS.due("reach(0, 1) behind undo", x.reach(0, 1), 2700);
    }

    private static void pumpRefusals() {
        BargeLocks x = new BargeLocks();
        x.addReach(1000, 0, 150);
        x.addBarge(0, 20, 100, 2, 200);
        x.addBarge(0, 20, 100, 2, 1000);
        x.load(0, 60);
        x.pump(0, 30);
        String before = Checks.everything(x);
        CHECKS.refused(x, "pump(0, 111), for want of hold", x.pump(0, 111), 8);
        CHECKS.refused(x, "pump(0, -31), for want of ballast", x.pump(0, -31), 8);
        CHECKS.refused(x, "pump(1, 121), for want of water", x.pump(1, 121), 8);
        for (int bad : new int[] {0, -1001, 1001, EXTREMES[0], EXTREMES[1]}) {
            CHECKS.due("pump(0, " + bad + ")", x.pump(0, bad), BargeLocks.BAD_VALUE);
        }
        for (int barge : new int[] {-1, 2, EXTREMES[0], EXTREMES[1]}) {
            CHECKS.due("pump(" + barge + ", 1)", x.pump(barge, 1), BargeLocks.UNKNOWN);
            CHECKS.due("pump(" + barge + ", 0)", x.pump(barge, 0), BargeLocks.UNKNOWN);
        }
        CHECKS.due("the state", Checks.everything(x), before);
        CHECKS.due("pump(0, 110)", x.pump(0, 110), 150);
        CHECKS.due("pump(1, 10)", x.pump(1, 10), 55);
        CHECKS.due("reach(0, 1)", x.reach(0, 1), 0);
        CHECKS.refused(x, "pump(1, 1) from nothing", x.pump(1, 1), 8);
        CHECKS.due("pump(0, -140)", x.pump(0, -140), 80);
        x.supply(0, 10000);
        CHECKS.due("pump(1, 990)", x.pump(1, 990), 550);
        CHECKS.due("pump(1, -1000)", x.pump(1, -1000), 50);
        CHECKS.due("pump(1, 1000)", x.pump(1, 1000), 550);
    }

    /** In a chamber, ballast is taken from its water; and behind it, the waters are shared. */
    private static void pumpInChamber() {
        BargeLocks x = Checks.openCanal();
        x.enter(0, 0);
        x.close(0);
        CHECKS.due("chamber(0, 1)", x.chamber(0, 1), 960);
        CHECKS.due("pump(0, 60)", x.pump(0, 60), 80);
        CHECKS.due("chamber(0, 1) then", x.chamber(0, 1), 900);
        CHECKS.due("chamber(0, 2) then", x.chamber(0, 2), 160);
        CHECKS.due("chamber(0, 0) then", x.chamber(0, 0), 212);
        CHECKS.due("reach(0, 1) then", x.reach(0, 1), 2040);
        BargeLocks y = Checks.unsettledCanal();
        CHECKS.due("pump(0, 1) while waters flow", y.pump(0, 1), 21);
        CHECKS.dueWatersShared(y, "behind it");
    }
}
