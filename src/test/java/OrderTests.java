/** Tests of promises 16 to 18: orders. */
public final class OrderTests {
    private static final Checks CHECKS = new Checks();

    public static void main(String[] args) {
        type();
        clearText();
        runEachOrder();
        runUpToAnError();
        runIsOneAct();
        runShares();
        rightTexts();
        faultyTexts();
        faultChangesNothing();
        strangeCharacters();
        CHECKS.end();
    }

    private static void type() {
        CHECKS.promise(16, "type");
        BargeLocks x = Checks.canal();
        for (int i = 1; i <= 60; i++) {
            CHECKS.due("type " + i, x.type(i % 2 == 0 ? ';' : (char) (i * 1000)), i);
        }
        CHECKS.due("type 61", x.type('x'), BargeLocks.FULL);
        CHECKS.due("count(9)", x.count(9), 60);
        CHECKS.due("count(8)", x.count(8), 2);
        x.undo();
        CHECKS.due("count(9) behind undo", x.count(9), 60);
        x.keep(0);
        x.clearText();
        CHECKS.due("type behind clearText", x.type((char) 0), 1);
        x.restore(0);
        CHECKS.due("count(9) behind restore", x.count(9), 1);
    }

    private static void clearText() {
        CHECKS.promise(17, "clearText");
        BargeLocks x = Checks.canal();
        CHECKS.due("clearText()", x.clearText(), 0);
        Checks.type(x, "close 0");
        CHECKS.due("clearText() of close 0", x.clearText(), 7);
        CHECKS.due("count(9)", x.count(9), 0);
        CHECKS.due("clearText() again", x.clearText(), 0);
        CHECKS.due("count(8)", x.count(8), 2);
        CHECKS.due("runOrders()", x.runOrders(), -100);
    }

    private static void runEachOrder() {
        CHECKS.promise(18, "runOrders");
        BargeLocks x = Checks.canal();
        x.addBarge(0, 20, 100, 2, 300);
        CHECKS.due("the ways up", Checks.run(x, "load 0 60;pump 00 020;sluice 0 0;open 000 0;enter 0 0"), 5);
        CHECKS.due("barge(0, 3)", x.barge(0, 3), 60);
        CHECKS.due("barge(0, 4)", x.barge(0, 4), 20);
        CHECKS.due("barge(0, 7)", x.barge(0, 7), 100);
        CHECKS.due("chamber(0, 8)", x.chamber(0, 8), 0);
        CHECKS.due("the text stays", x.count(9), 53);
        CHECKS.due("the ways out", Checks.run(x, "close 0;sluice 0 1;open 0 1;leave 0 1"), 4);
        CHECKS.due("barge(0, 7) then", x.barge(0, 7), 1);
        CHECKS.due("chamber(0, 8) then", x.chamber(0, 8), 1);
        CHECKS.due("the same text again", x.runOrders(), 3);
        CHECKS.due("its reason", x.count(7), 4);
    }

    private static void runUpToAnError() {
        BargeLocks x = Checks.canal();
        x.addBarge(0, 20, 100, 2, 300);
        CHECKS.due("refused at once", Checks.run(x, "open 0 0;load 0 5"), 0);
        CHECKS.due("its reason", x.count(7), 3);
        CHECKS.due("barge(0, 3)", x.barge(0, 3), 0);
        CHECKS.due("refused then", Checks.run(x, "load 0 5;load 0 296;load 0 7"), 1);
        CHECKS.due("its reason", x.count(7), 8);
        CHECKS.due("barge(0, 3) then", x.barge(0, 3), 5);
        CHECKS.due("an unknown barge", Checks.run(x, "load 0 1;load 11 1;close 0"), 1);
        CHECKS.due("the reason stays", x.count(7), 8);
        CHECKS.due("an unknown chamber", Checks.run(x, "load 0 1;sluice 3 1"), 1);
        CHECKS.due("each verb of a chamber", Checks.run(x, "open 3 1"), 0);
        CHECKS.due("each verb of a chamber", Checks.run(x, "close 3"), 0);
        CHECKS.due("each verb of a chamber", Checks.run(x, "leave 3 1"), 0);
        CHECKS.due("each verb of a barge", Checks.run(x, "enter 11 0"), 0);
        CHECKS.due("each verb of a barge", Checks.run(x, "pump 11 1"), 0);
        CHECKS.due("barge(0, 3) at last", x.barge(0, 3), 7);
    }

    private static void runIsOneAct() {
        BargeLocks x = Checks.canal();
        x.addBarge(0, 20, 100, 2, 300);
        String before = Checks.state(x);
        CHECKS.due("three orders", Checks.run(x, "load 0 5;pump 0 6;sluice 0 0"), 3);
        CHECKS.due("count(8)", x.count(8), 4);
        CHECKS.due("undo()", x.undo(), 3);
        CHECKS.due("the state behind undo", Checks.state(x), before);
        CHECKS.due("no order", Checks.run(x, "close 0"), 0);
        CHECKS.due("count(8) behind no order", x.count(8), 4);
        CHECKS.due("undo() behind no order", x.undo(), 3);
        CHECKS.due("load, which is an act again", x.load(0, 5), 53);
        CHECKS.due("count(8) behind it", x.count(8), 4);
    }

    /** Waters are shared behind each order that is carried out, and behind the act. */
    private static void runShares() {
        BargeLocks x = Checks.unsettledCanal();
        CHECKS.due("no order", Checks.run(x, "close 3"), 0);
        CHECKS.dueWatersShared(x, "behind no order");
        BargeLocks y = Checks.unsettledCanal();
        CHECKS.due("one order", Checks.run(y, "load 0 1"), 1);
        CHECKS.dueWaters(y, "behind one order", 1000, 2000, 1000);
        BargeLocks z = Checks.unsettledCanal();
        CHECKS.due("one order, then a refused one", Checks.run(z, "load 0 1;sluice 0 0"), 1);
        CHECKS.dueWaters(z, "behind a refused order", 1000, 2000, 1000);
        CHECKS.due("a faulty text", Checks.run(Checks.unsettledCanal(), "load 0 1;"), -109);
    }

    private static void rightTexts() {
        String[] texts = {
            "sluice 3 1", "open 0 0", "close 3", "enter 11 3", "leave 3 1", "load 11 999", "pump 11 1",
            "close 003", "enter 011 03", "load 00 001", "pump 000 999", "open 00 001",
            "close 3;close 3", "close 3;close 0;close 1;close 2;close 3;close 3;close 3",
            "load 11 999;pump 11 999;enter 11 3;leave 3 1;sluice 3 0;open",
        };
        for (int i = 0; i < texts.length; i++) {
            int want = i == texts.length - 1 ? -160 : 0;
            CHECKS.due("runOrders() of " + texts[i], Checks.run(new BargeLocks(), texts[i]), want);
        }
    }

    private static void faultyTexts() {
        fault("", 0);
        fault(" ", 0);
        fault(";", 0);
        fault("Open 0 0", 0);
        fault("ope", 0);
        fault("opens 0 0", 0);
        fault(" open 0 0", 0);
        fault(";open 0 0", 0);
        fault("0 0", 0);
        fault("undo", 0);
        fault("open", 4);
        fault("open;", 4);
        fault("open ", 5);
        fault("open  0 0", 5);
        fault("open ;", 5);
        fault("open 0", 6);
        fault("open 0;", 6);
        fault("open 0;0", 6);
        fault("open 0 ", 7);
        fault("open 0 ;", 7);
        fault("open 0 2", 7);
        fault("open 4 2", 5);
        fault("open 4", 5);
        fault("open x 0", 5);
        fault("open 0x 0", 5);
        fault("open -0 0", 5);
        fault("open 0000 0", 5);
        fault("open 0 0000", 7);
        fault("open 0 00x", 7);
        fault("open 0 0 ", 8);
        fault("open 0 0 0", 8);
        fault("open 0 0 ;close 0", 8);
        fault("open 0 0;", 9);
        fault("open 0 0; close 0", 9);
        fault("open 0 0;;close 0", 9);
        fault("open 0 0;shut 0", 9);
        fault("open 0 0;close", 14);
        fault("open 0 0;close 0 0", 16);
        fault("close 4", 6);
        fault("close 0 0", 7);
        fault("sluice 4 0", 7);
        fault("sluice 0 2", 9);
        fault("leave 4 0", 6);
        fault("leave 0 2", 8);
        fault("enter 12 0", 6);
        fault("enter 11 4", 9);
        fault("enter 0", 7);
        fault("load 12 1", 5);
        fault("load 0 0", 7);
        fault("load 0 000", 7);
        fault("load 0 1000", 7);
        fault("load 0 0001", 7);
        fault("load 0 -1", 7);
        fault("load 0 1.5", 7);
        fault("load 0", 6);
        fault("pump 12 1", 5);
        fault("pump 0 0", 7);
        fault("pump 0 1000", 7);
        fault("pump 0 +1", 7);
    }

    private static void fault(String text, int index) {
        CHECKS.due("runOrders() of \"" + text + "\"", Checks.run(Checks.canal(), text), -100 - index);
    }

    private static void faultChangesNothing() {
        BargeLocks x = Checks.unsettledCanal();
        Checks.type(x, "load 0 1;load 0 2;close 4");
        String before = Checks.everything(x);
        CHECKS.due("runOrders()", x.runOrders(), -124);
        CHECKS.due("the state", Checks.everything(x), before);
        Checks.type(x, "load 0 1;load 0 2;close 3");
        CHECKS.due("runOrders() of the mended text", x.runOrders(), 2);
    }

    private static void strangeCharacters() {
        fault("open \u0660 0", 5);
        fault("open\u00a00 0", 0);
        fault("open\t0 0", 0);
        fault("open 0 0\n", 7);
        fault("\u016fpen 0 0", 0);
        fault("open 0 \u0130", 7);
        fault("open 0 0\u013b", 7);
        fault("open\u01200 0", 0);
        fault("\0", 0);
        fault("open 0\0", 5);
    }
}
