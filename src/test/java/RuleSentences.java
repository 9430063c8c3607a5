/** Sentences of the terms on refusals, orders, the history and errors. */
final class RuleSentences {
    private static final String[] CANAL = Sentences.CANAL;
    private static final String[] OPEN = Sentences.OPEN;
    private final Sentences of;

    RuleSentences(Sentences sentences) {
        of = sentences;
    }

    void test() {
        of.section("Terms");
        reasons();
        laterReasons();
        whichReason();
        orders();
        faults();
        history();
        errors();
        constants();
        notTested();
    }

    private void reasons() {
        of.saysOnly("Refusals.");
        of.says("A call that is refused sets the reason:");
        of.run(CANAL, "count 7 = 0", "open 0 0 = REFUSED 3", "count 7 = 3");
        of.says("1 a gate of the chamber is open (either one),");
        of.run(OPEN, "open 0 0 = REFUSED 1", "open 0 1 = REFUSED 1", "sluice 0 0 = REFUSED 1", "sluice 0 1 = REFUSED 1");
        of.run(CANAL, "sluice 0 1", "open 0 1", "open 0 0 = REFUSED 1", "open 0 1 = REFUSED 1",
                "sluice 0 0 = REFUSED 1", "sluice 0 1 = REFUSED 1");
        of.says("2 the gate is closed (whatever the other one is),");
        of.run(OPEN, "enter 0 0", "leave 0 1 = REFUSED 2", "close 0", "leave 0 1 = REFUSED 2", "leave 0 0 = REFUSED 2",
                "enter 1 0 = REFUSED 2", "close 0 = REFUSED 2", "sluice 0 1", "open 0 1", "leave 0 0 = REFUSED 2");
        of.says("3 the levels differ,");
        of.run(CANAL, "open 0 0 = REFUSED 3", "open 0 1 = REFUSED 3", "sluice 0 0", "open 0 1 = REFUSED 3", "open 0 0");
        of.says("4 the barge is not there, or not next to the gate,");
        of.run(OPEN, "addBarge 1 5 10 1 10", "leave 0 0 = REFUSED 4", "enter 3 0 = REFUSED 4", "enter 0 0",
                "enter 0 0 = REFUSED 4", "load 0 1 = REFUSED 4", "enter 1 0", "leave 0 0 = 1", "leave 0 0 = 0");
    }

    private void laterReasons() {
        of.says("5 the barge is aground,");
        // The level 53 is less than the draught 500.
        of.run("addReach 1000 0 300", "addChamber 500 40 0 1000 0 0", "addBarge 0 20 500 1 300", "setClearance 0",
                "sluice 0 0", "open 0 0 = 53", "enter 0 0 = REFUSED 5");
        of.says("6 it is too long for the room that is left,");
        of.run(OPEN, "enter 0 0 = 20", "addBarge 0 21 10 1 10", "enter 3 0 = REFUSED 6", "enter 1 0 = 5",
                "addBarge 0 5 10 1 10", "addBarge 0 6 10 1 10", "enter 5 0 = REFUSED 6", "enter 4 0 = 0");
        of.says("7 the level of the chamber less the height of the sill is less than its draught plus the clearance (0"
                + " to 50, at first 10),");
        // 212 - 152 = 50 + 10
        of.run(OPEN, "setSill 0 0 153", "enter 0 0 = REFUSED 7", "setSill 0 0 152", "enter 0 0", "setSill 0 0 153",
                "leave 0 0 = REFUSED 7", "setSill 0 0 152", "leave 0 0");
        of.run(OPEN, "count 6 = 10", "setClearance 50", "setSill 0 0 113", "enter 0 0 = REFUSED 7", "setSill 0 0 112",
                "enter 0 0", "setClearance 0", "setSill 0 0 163", "leave 0 0 = REFUSED 7", "setSill 0 0 162", "leave 0 0");
        // 6 passages follow two, so that mud makes the sill of 152 too high.
        of.run(OPEN, "setSill 0 0 152", Sentences.times(4, "enter 0 0", "leave 0 0"), "enter 0 0 = REFUSED 7",
                "dredge 0 0", "enter 0 0");
        of.says("8 there is too much or too little (of hold, cargo, ballast or water).");
        of.run(CANAL, "addBarge 0 20 100 2 300", "load 0 301 = REFUSED 8", "load 0 -1 = REFUSED 8",
                "pump 0 301 = REFUSED 8", "pump 0 -1 = REFUSED 8", "supply 0 -3001 = REFUSED 8", "supply 0 -2999",
                "pump 0 2 = REFUSED 8", "pump 0 1", "pump 0 1 = REFUSED 8");
    }

    private void whichReason() {
        of.says("The reason is 0 at first, and stays until the next refusal.");
        of.run("count 7 = 0", "addReach 1000 0 3000", "count 7 = 0", "addChamber 500 40 0 1000 200 3000",
                "close 0 = REFUSED 2", "sluice 0 0", "setSill 1 0 0 = UNKNOWN", "dredge 0 0 = NONE",
                "setClearance 51 = BAD_VALUE", "addReach 100 0 0 = FULL", "keep 0", "undo", "restore 0", "count 7 = 2",
                "open 0 1 = REFUSED 3");
        of.says("Of several reasons the one with the lowest number is set.");
        String[] all = {"addReach 1000 0 300", "addChamber 500 10 0 1000 0 0", "addBarge 0 20 500 1 300",
            "addBarge 1 20 500 1 300", "setSill 0 0 5000"};
        of.run(all, "enter 1 0 = REFUSED 2", "sluice 0 0", "open 0 0", "enter 1 0 = REFUSED 4", "enter 0 0 = REFUSED 5",
                "supply 0 7000", "enter 0 0 = REFUSED 6", "addBarge 0 10 500 1 300", "enter 2 0 = REFUSED 7");
        of.run(OPEN, "open 0 1 = REFUSED 1", "enter 0 0", "load 0 301 = REFUSED 4");
        // Aground, 212 - 153 less than 60, and by the closed gate.
        of.run(OPEN, "enter 0 0", "setSill 0 0 153", "setSill 0 1 5000", "supply 0 -2040", "supply 0 -680",
                "supply 0 -225", "leave 0 1 = REFUSED 2", "leave 0 0 = REFUSED 5", "supply 0 2945", "leave 0 0 = REFUSED 7");
    }

    private void orders() {
        of.saysOnly("Orders.");
        of.says("There is a text of at most 60 characters, empty at first.");
        of.run("count 9 = 0", Sentences.times(59, "type 32"), "type 32 = 60", "type 32 = FULL", "count 9 = 60");
        of.says("It is a row of orders that are separated by \";\", each a word and numbers, all separated by single"
                + " blanks:");
        of.run("text close 3;close 3", "runOrders = 0", "text close 3 close 3", "runOrders = -107", "text close;3",
                "runOrders = -105", "text close  3", "runOrders = -106", "text close 3 ;close 3", "runOrders = -107",
                "text close 3; close 3", "runOrders = -108");
        of.saysOnly("```text");
        verbs();
        of.says("They stand for the methods of these names (C a chamber, 0 to 3; G a gate, 0 or 1; B a barge, 0 to 11;"
                + " T tons, 1 to 999; load and pump of T tons more).");
        of.run("text close 0", "runOrders = 0", "text close 3", "runOrders = 0", "text close 4", "runOrders = -106");
        of.run("text open 0 0", "runOrders = 0", "text open 0 1", "runOrders = 0", "text open 0 2", "runOrders = -107");
        of.run("text enter 0 0", "runOrders = 0", "text enter 11 3", "runOrders = 0", "text enter 12 3",
                "runOrders = -106", "text enter 11 4", "runOrders = -109");
        of.run("text load 11 1", "runOrders = 0", "text load 11 999", "runOrders = 0", "text load 11 0",
                "runOrders = -108", "text load 12 1", "runOrders = -105");
        of.run("text pump 11 1", "runOrders = 0", "text pump 11 999", "runOrders = 0", "text pump 11 0",
                "runOrders = -108", "text pump 12 1", "runOrders = -105");
        of.run(CANAL, "addBarge 0 20 100 2 1000", "text load 0 7;load 0 5", "runOrders = 2", "barge 0 3 = 12",
                "text pump 0 7;pump 0 5", "runOrders = 2", "barge 0 4 = 12", "text load 0 976", "runOrders = 1",
                "barge 0 5 = 0");
        of.says("A number has 1 to 3 digits (zeros can stand in front).");
        of.run(CANAL, "addBarge 0 20 100 2 1000", "text load 00 007;load 000 07", "runOrders = 2", "barge 0 3 = 14",
                "text load 0 0007", "runOrders = -107", "text load 0000 7", "runOrders = -105", "text load  7",
                "runOrders = -105");
        of.run(CANAL, "addBarge 0 20 100 2 1000", "text load 0 999", "runOrders = 1", "barge 0 3 = 999",
                "text load 0 1000", "runOrders = -107");
        of.says("Whether there is such a chamber or barge plays no part.");
        of.run("text close 3;enter 11 3;load 11 999", "runOrders = 0", "text pump 11 1", "runOrders = 0",
                "text sluice 3 1", "runOrders = 0");
    }

    private void verbs() {
        of.says("sluice C G |");
        of.run(CANAL, "text sluice 0 1", "runOrders = 1", "chamber 0 0 = 333");
        of.says("open C G |");
        of.run(CANAL, "sluice 0 1", "text open 0 1", "runOrders = 1", "chamber 0 8 = 1");
        of.says("close C |");
        of.run(OPEN, "text close 0", "runOrders = 1", "chamber 0 8 = NONE");
        of.says("enter B C |");
        of.run(OPEN, "text enter 2 0", "runOrders = 1", "barge 2 7 = 100");
        of.says("leave C G |");
        of.run(OPEN, "enter 2 0", "text leave 0 0", "runOrders = 1", "barge 2 7 = 0");
        of.says("load B T |");
        of.run(OPEN, "text load 2 50", "runOrders = 1", "barge 2 3 = 50", "barge 2 4 = 0");
        of.says("pump B T\n");
        of.run(OPEN, "text pump 2 50", "runOrders = 1", "barge 2 4 = 50", "barge 2 3 = 0");
    }

    private void faults() {
        of.says("The fault of the text is the index, from 0, of the first character of a word or number (what stands up"
                + " to the next blank, \";\" or the end of the text) that is not one of these at its place");
        fault("shut 0", 0);
        fault("closer 0", 0);
        fault("clos 0", 0);
        fault("Close 0", 0);
        fault("0 close", 0);
        fault("close,0", 0);
        fault("close\t0", 0);
        fault("close 0;shut 0", 8);
        fault("close 0;3", 8);
        fault("close close", 6);
        fault("close x", 6);
        fault("close 3x", 6);
        fault("close -1", 6);
        fault("open 4 0", 5);
        fault("open 0 2", 7);
        fault("open 0 0x;close 0", 7);
        fault("enter 3 11", 8);
        fault("close \u0663", 6);
        // Their distances from '0' would make numbers that are in range.
        fault("load 0 x", 7);
        fault("load 0 1:", 7);
        fault("load 0 2/", 7);
        of.says("(if it is empty, of what stands there instead)");
        fault(" ", 0);
        fault(";", 0);
        fault(" close 0", 0);
        fault(";close 0", 0);
        fault("close  0", 6);
        fault("close ;close 0", 6);
        fault("open 0  0", 7);
        fault("open 0 ;close 0", 7);
        fault("close 0; close 0", 8);
        fault("close 0;;close 0", 8);
        of.says(", or of a blank or \";\" that stands where the other one, or the end, has to be;");
        fault("close;0", 5);
        fault("open 0;0", 6);
        fault("close 0 0", 7);
        fault("close 0 ", 7);
        fault("open 0 0 0", 8);
        fault("open 0 0 ;close 0", 8);
        of.says("or the length of the text, if all before is right and it ends too early (the empty text does, and one"
                + " that ends with \";\").");
        fault("", 0);
        fault("close", 5);
        fault("close ", 6);
        fault("open 0", 6);
        fault("open 0 ", 7);
        fault("close 0;", 8);
        fault("open 0 0;close 0;", 17);
        fault("load 11 999;pump 11 999;enter 11 3;leave 3 1;sluice 3 0;open", 60);
        of.says("The first one from the beginning counts.");
        fault("close 4;shut 9", 6);
        fault("close 0 ;;", 7);
        fault("open 4 2", 5);
        fault("shut", 0);
    }

    private void fault(String text, int index) {
        // The empty text is the one at first.
        String[] typed = text.isEmpty() ? new String[0] : new String[] {"text " + text};
        of.run(OPEN, typed, "mark", "runOrders = " + (-100 - index), "same");
    }

    private void history() {
        of.saysOnly("History.");
        of.says("A history of at most 5 states is kept; when one more is recorded, the oldest one is dropped;");
        String[] five = {"setClearance 1", "setClearance 2", "setClearance 3", "setClearance 4", "setClearance 5"};
        of.run(five, "count 8 = 5", "undo = 4", "undo = 3", "undo = 2", "undo = 1", "undo = 0", "count 6 = 10",
                "undo = NONE");
        of.run(five, "setClearance 6", "count 8 = 5", "undo = 4", "undo = 3", "undo = 2", "undo = 1", "undo = 0",
                "count 6 = 1", "undo = NONE");
        of.run(five, five, "setClearance 11", "setClearance 12", "undo = 4", "count 6 = 11", "undo = 3", "count 6 = 5",
                "undo = 2", "undo = 1", "undo = 0", "count 6 = 2", "undo = NONE");
        of.says("undo() removes and restores the latest one.");
        of.run(five, "undo = 4", "count 6 = 4", "count 8 = 4", "setClearance 9", "count 8 = 5", "undo = 4", "count 6 = 4");
        of.says("Each call of a method that is described as an act, and returns no error (a refusal is one) and not NONE,"
                + " records the state before it.");
        of.run(CANAL, "count 8 = 2", "setClearance 10", "count 8 = 3", "setClearance 51 = BAD_VALUE", "count 8 = 3",
                "open 0 0 = REFUSED 3", "count 8 = 3", "dredge 0 0 = NONE", "restore 0 = NONE", "count 8 = 3",
                "addReach 100 0 0 = FULL", "setSill 1 0 0 = UNKNOWN", "count 8 = 3", "keep 0", "type 32", "clearText",
                "runOrders = -100", "count 8 = 3", "undo = 2", "count 8 = 2");
        of.says("There are two slots for snapshots, empty at first.");
        of.run("restore 0 = NONE", "restore 1 = NONE", "keep 0", "setClearance 20", "keep 1", "restore 0", "count 6 = 10",
                "restore 1", "count 6 = 20", "keep 2 = UNKNOWN", "restore 2 = UNKNOWN");
        of.says("A state is everything but the text, the history, the slots and the reason.");
        String[] much = Sentences.join(OPEN, "setSill 0 0 7", "setSill 0 1 8", "load 0 60", "pump 1 30", "supply 0 500",
                "setClearance 17", Sentences.times(4, "enter 0 0", "leave 0 0"), "enter 1 0");
        of.run(much, "mark", "keep 0", "leave 0 0", "dredge 0 0", "setSill 0 1 9", "close 0", "sluice 0 1",
                "setClearance 3", "addBarge 1 5 10 1 10", "addChamber 100 10 0 100 0 50", "load 0 -60", "supply 2 7",
                "restore 0", "same");
        of.run(CANAL, "text close 0", "close 0 = REFUSED 2", "keep 0", "setClearance 20", "keep 1", "open 0 0 = REFUSED 3",
                "text open", "count 8 = 3", "restore 0", "count 7 = 3", "count 8 = 4", "count 9 = 4", "undo = 3",
                "count 7 = 3", "count 9 = 4", "restore 1", "count 6 = 20");
    }

    private void errors() {
        of.saysOnly("Errors.");
        of.says("Errors are reported by the constants below.");
        of.run("addReach 99 0 0 = BAD_VALUE", "supply 0 0 = UNKNOWN", "addChamber 100 10 0 100 0 0 = FULL",
                "addReach 100 0 0", "supply 0 -1 = REFUSED 8");
        of.says("Where several errors can apply, the order of the @return line is the order of the checks.");
        of.run("addChamber 100 9 0 100 0 0 = BAD_VALUE", "supply 0 1000001 = UNKNOWN", "addBarge 0 4 10 1 10 = UNKNOWN",
                "addReach 100 0 0", "supply 0 1000001 = BAD_VALUE", "supply 0 -1000001 = BAD_VALUE",
                "addReach 99 0 0 = BAD_VALUE");
        of.says("Methods that return a long return these constants, too.");
        of.run("account 7 = BAD_VALUE", "account -1 = BAD_VALUE");
        of.says("NONE is returned only if no error applies.");
        of.run(CANAL, "lying 1 0 = UNKNOWN", "lying 0 -1 = BAD_VALUE", "lying 0 0 = NONE", "dredge 1 0 = UNKNOWN",
                "dredge 0 2 = UNKNOWN", "restore 2 = UNKNOWN", "addBarge 1 5 500 1 10", "margin 0 0 2 = UNKNOWN",
                "margin 0 0 0 = NONE", "chamber 0 13 = BAD_VALUE");
        of.says("A call that reports an error or NONE changes nothing (but for the reason, if it is REFUSED).");
        // A Script makes each run without these calls, too; here they stand one by one.
        String[] errors = {"addReach 100 0 0 = FULL", "addChamber 100 9 0 100 0 0 = BAD_VALUE", "setSill 0 0 -1 = BAD_VALUE",
            "setClearance -1 = BAD_VALUE", "dredge 0 0 = NONE", "supply 0 -3001 = REFUSED 8", "addBarge 2 5 10 1 10 = UNKNOWN",
            "load 0 301 = REFUSED 8", "pump 0 -1 = REFUSED 8", "sluice 0 0 = REFUSED 1", "open 0 1 = REFUSED 1",
            "close 1 = UNKNOWN", "enter 0 1 = UNKNOWN", "leave 0 0 = REFUSED 4", "runOrders = -100", "keep 2 = UNKNOWN",
            "restore 0 = NONE", "restore -1 = UNKNOWN"};
        for (String error : errors) {
            of.run(OPEN, "open 0 0 = REFUSED 1", "mark", "count 8 = 5", error, "same", "count 8 = 5");
        }
        of.run(OPEN, "enter 0 0", "mark", "enter 0 0 = REFUSED 4", "dredge 0 1 = NONE", "leave 0 1 = REFUSED 2", "same");
    }

    private void constants() {
        of.says("The constants: `UNKNOWN = -100000001`: There is no such reach, chamber, gate, barge or slot.");
        of.run("reach 0 0 = -100000001", "chamber 0 0 = -100000001", "barge 0 0 = -100000001", "keep 2 = -100000001");
        of.run(CANAL, "flow 0 2 = -100000001");
        of.says("`BAD_VALUE = -100000002`: Another argument is out of range.");
        of.run(CANAL, "reach 0 6 = -100000002", "setClearance 51 = -100000002", "lying 0 -1 = -100000002");
        of.says("`REFUSED = -100000003`: The call is refused, for a reason.");
        of.run(CANAL, "open 0 0 = -100000003");
        of.says("`FULL = -100000004`: There is no more room.");
        of.run(CANAL, "addReach 100 0 0 = -100000004", Sentences.times(60, "type 32"), "type 32 = -100000004");
        of.says("`NONE = -100000005`: There is no such thing; not an error.");
        of.run(CANAL, "chamber 0 8 = -100000005", "dredge 0 0 = -100000005", "restore 0 = -100000005");
    }

    private void notTested() {
        String[][] headings = {{"the canal", "addReach`, `addChamber`, `setSill`, `setClearance`, `dredge`, `supply"},
            {"barges", "addBarge`, `load`, `pump"}, {"locking", "sluice`, `open`, `close`, `enter`, `leave"},
            {"orders", "type`, `clearText`, `runOrders"}, {"history", "undo`, `keep`, `restore"},
            {"what is told", "reach`, `chamber`, `lying`, `barge`, `margin`, `flow`, `account`, `count"}};
        for (String[] each : headings) {
            of.saysOnly("Ahead of the calls `" + each[1] + "` the interface says: ---- " + each[0] + ".");
        }
    }
}
