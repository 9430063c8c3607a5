/** Compares answers with what is due, and counts those that are not. */
final class Checks {
    private String promise = "";
    private int made = 0;
    private int wrong = 0;

    /** What follows tests this promise. */
    void promise(int number, String name) {
        promise = "promise " + number + " (" + name + ")";
    }

    void due(String what, long got, long want) {
        made++;
        if (got != want) {
            wrong++;
            System.out.println(promise + ": " + what + " answered " + got + ", due is " + want);
        }
    }

    void due(String what, String got, String want) {
        made++;
        if (!got.equals(want)) {
            wrong++;
            System.out.println(promise + ": " + what + " is\n  " + got + "\ndue is\n  " + want);
        }
    }

    void refused(BargeLocks x, String what, long got, int reason) {
        due(what, got, BargeLocks.REFUSED);
        due("the reason of " + what, x.count(7), reason);
    }

    /** Ends the program, with exit code 1 if an answer was wrong. */
    void end() {
        System.out.println(made + " answers, " + wrong + " wrong");
        System.exit(wrong == 0 ? 0 : 1);
    }

    static void type(BargeLocks x, String text) {
        x.clearText();
        for (int i = 0; i < text.length(); i++) {
            x.type(text.charAt(i));
        }
    }

    static int run(BargeLocks x, String text) {
        type(x, text);
        return x.runOrders();
    }

    /** All that is told of the state: what undo() and restore() bring back. */
    static String state(BargeLocks x) {
        StringBuilder told = new StringBuilder();
        for (int what = 0; what <= 6; what++) {
            told.append(x.count(what)).append(' ').append(x.account(what)).append(' ');
        }
        for (int reach = 0; reach < x.count(0); reach++) {
            told.append("| reach ");
            for (int what = 0; what <= 5; what++) {
                told.append(x.reach(reach, what)).append(' ');
            }
        }
        for (int chamber = 0; chamber < x.count(1); chamber++) {
            told.append("| chamber ");
            for (int what = 0; what <= 12; what++) {
                told.append(x.chamber(chamber, what)).append(' ');
            }
            for (int place = 0; x.lying(chamber, place) >= 0; place++) {
                told.append("* ").append(x.lying(chamber, place)).append(' ');
            }
        }
        for (int barge = 0; barge < x.count(2); barge++) {
            told.append("| barge ");
            for (int what = 0; what <= 8; what++) {
                told.append(x.barge(barge, what)).append(' ');
            }
        }
        return told.toString();
    }

    /** The state with the text's length and the history's: all but the reason and the slots. */
    static String everything(BargeLocks x) {
        return state(x) + "| history " + x.count(8) + " text " + x.count(9);
    }

    /** A reach of level 300, a chamber from 0, and a reach of level 500; all without barges. */
    static BargeLocks canal() {
        BargeLocks x = new BargeLocks();
        x.addReach(1000, 0, 3000);
        x.addChamber(500, 40, 0, 1000, 200, 3000);
        return x;
    }

    /** The canal with the gate 0 open at level 212, and the barges 0, 1, 2 in the reach 0. */
    static BargeLocks openCanal() {
        BargeLocks x = canal();
        x.addBarge(0, 20, 100, 2, 300);
        x.addBarge(0, 15, 60, 1, 100);
        x.addBarge(0, 10, 30, 3, 50);
        x.sluice(0, 0);
        x.open(0, 0);
        return x;
    }

    /** Two chambers with gates open to the reach 1, which all hold water at the level 150. */
    static BargeLocks doubleCanal() {
        BargeLocks x = new BargeLocks();
        x.addReach(1000, 0, 3000);
        x.addChamber(500, 40, 0, 1000, 0, 3000);
        x.addChamber(500, 40, 0, 1000, 0, 3000);
        x.addBarge(0, 10, 100, 5, 300);
        x.sluice(0, 1);
        x.open(0, 1);
        for (int i = 0; i < 3; i++) {
            x.sluice(1, 0);
        }
        x.open(1, 0);
        return x;
    }

    /** The double canal behind a supply, after which one sharing did not make it level. */
    static BargeLocks unsettledCanal() {
        BargeLocks x = doubleCanal();
        x.supply(1, 1000);
        return x;
    }

    /** The waters of the unsettled canal behind an act that takes none, and adds none, of them. */
    void dueWatersShared(BargeLocks x, String when) {
        dueWaters(x, when, 1010, 1995, 995);
    }

    /** The waters of the double canal: the chamber 0, the reach 1, the chamber 1. */
    void dueWaters(BargeLocks x, String when, int lowerChamber, int reach, int upperChamber) {
        due("chamber(0, 1) " + when, x.chamber(0, 1), lowerChamber);
        due("reach(1, 1) " + when, x.reach(1, 1), reach);
        due("chamber(1, 1) " + when, x.chamber(1, 1), upperChamber);
    }
}
