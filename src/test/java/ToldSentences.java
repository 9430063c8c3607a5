/** Sentences of promises 22 to 29: what is told. */
final class ToldSentences {
    private static final String[] NEW = {};
    private static final String[] CANAL = Sentences.CANAL;
    private static final String[] OPEN = Sentences.OPEN;
    /** The barge 1 next to the gate 0, and the barge 0 behind it; 60 and 40 t in the barge 0. */
    private static final String[] TOLD = Sentences.join(OPEN, "load 0 60", "pump 0 40", "enter 0 0", "enter 1 0");
    private static final String[] FOUR =
            Sentences.join("addReach 1000 0 3000", Sentences.times(4, "addChamber 100 10 0 1000 0 3000"));
    private static final String[] TWELVE = Sentences.join(CANAL, Sentences.times(12, "addBarge 0 5 10 1 10"));
    private final Sentences of;

    ToldSentences(Sentences sentences) {
        of = sentences;
    }

    void test() {
        reach();
        chamber();
        chamberProperties();
        lying();
        barge();
        bargeProperties();
        margin();
        marginAnswers();
        flow();
        account();
        count();
        countHistoryAndText();
    }

    private void reach() {
        of.section("Promise 22: reach");
        of.says("- `reach`: a reach");
        of.known(CANAL, "reach ? 0", 2);
        of.known(FOUR, "reach ? 0", 5);
        of.unknown(NEW, "reach ? 0", 0);
        of.says("- `what`: 0 for its level,");
        // t = 3000 + 190 + 60, h = 325000 / 1500 = 216, and the chamber holds 1080 with 260 afloat.
        of.run(TOLD, "reach 0 0 = 217", "reach 1 0 = 500");
        of.says("1 for its water,");
        of.run(TOLD, "reach 0 1 = 2140", "reach 1 1 = 3000");
        of.says("2 for the weights of its barges together,");
        of.run(TOLD, "reach 0 2 = 30", "reach 1 2 = 0", "leave 0 0", "reach 0 2 = 90");
        of.says("3 for the number of its barges,");
        of.run(TOLD, "reach 0 3 = 1", "reach 1 3 = 0", "leave 0 0", "reach 0 3 = 2");
        of.says("4 for its area,");
        of.run("addReach 700 30 1000", "reach 0 4 = 700");
        of.says("5 for its floor");
        of.run("addReach 700 30 1000", "reach 0 5 = 30");
        of.says("Returns the property;");
        of.run(CANAL, "reach 1 0 = 500", "reach 1 1 = 3000", "reach 1 2 = 0", "reach 1 3 = 0", "reach 1 4 = 1000",
                "reach 1 5 = 200");
        of.says("UNKNOWN;");
        of.run(CANAL, "reach 2 6 = UNKNOWN", "reach -1 -1 = UNKNOWN");
        of.says("BAD_VALUE.");
        of.outOfRange(CANAL, "reach 0 ?", 0, 5);
    }

    private void chamber() {
        of.section("Promise 23: chamber");
        of.says("- `chamber`: a chamber");
        of.known(CANAL, "chamber ? 0", 1);
        of.known(FOUR, "chamber ? 0", 4);
        of.unknown(NEW, "chamber ? 0", 0);
        of.says("- `what`: 0 to 5 as for reaches,");
        of.run(TOLD, "chamber 0 0 = 216", "chamber 0 1 = 820", "chamber 0 2 = 260", "chamber 0 3 = 2", "chamber 0 4 = 500",
                "chamber 0 5 = 0");
        of.run(CANAL, "addChamber 700 50 33 100 0 0", "chamber 1 0 = 33", "chamber 1 4 = 700", "chamber 1 5 = 33");
        of.says("6 for its length,");
        of.run(TOLD, "chamber 0 6 = 40");
        of.says("7 for the length that is left,");
        of.run(TOLD, "chamber 0 7 = 5", "leave 0 0", "chamber 0 7 = 20", "leave 0 0", "chamber 0 7 = 40");
        of.says("8 for the open gate (NONE if none is),");
        of.run(TOLD, "chamber 0 8 = 0", "close 0", "chamber 0 8 = NONE", "sluice 0 1", "open 0 1", "chamber 0 8 = 1");
    }

    private void chamberProperties() {
        of.says("9 and 10 for the heights of the sills of the gates 0 and 1 (with their mud),");
        of.run(CANAL, "setSill 0 0 5", "setSill 0 1 6", "chamber 0 9 = 5", "chamber 0 10 = 6");
        of.run(OPEN, "setSill 0 0 5", "setSill 0 1 6", Sentences.times(4, "enter 0 0", "leave 0 0"), "chamber 0 9 = 6",
                "chamber 0 10 = 6");
        String[] upper = Sentences.join(CANAL, "addBarge 1 20 100 2 300", "setSill 0 1 6", "sluice 0 1", "open 0 1",
                Sentences.times(5, "enter 0 0", "leave 0 1"));
        of.run(upper, "chamber 0 9 = 0", "chamber 0 10 = 7");
        of.says("11 and 12 for the passages by these gates");
        of.run(TOLD, "chamber 0 11 = 2", "chamber 0 12 = 0");
        of.run(upper, "chamber 0 11 = 0", "chamber 0 12 = 10");
        of.says("Returns the property;");
        of.run(CANAL, "chamber 0 0 = 0", "chamber 0 6 = 40", "chamber 0 7 = 40", "chamber 0 12 = 0");
        of.says("UNKNOWN;");
        of.run(CANAL, "chamber 1 13 = UNKNOWN", "chamber -1 -1 = UNKNOWN", "chamber 1 8 = UNKNOWN");
        of.says("BAD_VALUE.");
        of.outOfRange(CANAL, "chamber 0 ?", 0, 12);
    }

    private void lying() {
        of.section("Promise 24: lying");
        of.says("- `chamber`: a chamber");
        of.known(TOLD, "lying ? 0", 1);
        of.unknown(NEW, "lying ? 0", 0);
        of.says("- `place`: a place in the row of its barges, from 0 (next to the gate 0)");
        of.run(TOLD, "lying 0 0 = 1", "lying 0 1 = 0", "leave 0 0", "lying 0 0 = 0");
        of.says("Returns the barge there;");
        of.run("addReach 10000 0 30000", "addChamber 500 200 0 10000 0 0", Sentences.times(12, "addBarge 0 16 10 2 10"),
                "sluice 0 0", "open 0 0", "enter 0 0", "enter 1 0", "enter 2 0", "enter 3 0", "enter 4 0", "enter 5 0",
                "enter 6 0", "enter 7 0", "enter 8 0", "enter 9 0", "enter 10 0", "enter 11 0 = 8", "lying 0 0 = 11",
                "lying 0 11 = 0", "lying 0 12 = NONE", "lying 0 5 = 6", "leave 0 0 = 11", "lying 0 0 = 10", "lying 0 10 = 0",
                "lying 0 11 = NONE");
        of.says("UNKNOWN;");
        of.run(TOLD, "lying 1 0 = UNKNOWN", "lying 1 -1 = UNKNOWN", "lying -1 9 = UNKNOWN");
        of.says("BAD_VALUE if place is negative;");
        of.run(TOLD, "lying 0 -1 = BAD_VALUE", "lying 0 MIN = BAD_VALUE");
        of.run(CANAL, "lying 0 -1 = BAD_VALUE");
        of.says("NONE if there are not so many.");
        of.run(TOLD, "lying 0 2 = NONE", "lying 0 11 = NONE", "lying 0 12 = NONE", "lying 0 13 = NONE", "lying 0 MAX = NONE",
                "leave 0 0", "lying 0 1 = NONE", "leave 0 0", "lying 0 0 = NONE");
        of.run(CANAL, "lying 0 0 = NONE");
    }

    private void barge() {
        of.section("Promise 25: barge");
        of.says("- `barge`: a barge");
        of.known(OPEN, "barge ? 0", 3);
        of.known(TWELVE, "barge ? 0", 12);
        of.unknown(NEW, "barge ? 0", 0);
        of.says("- `what`: 0 for its length,");
        of.run(TOLD, "barge 0 0 = 20", "barge 1 0 = 15", "barge 2 0 = 10");
        of.says("1 for its weight,");
        of.run(TOLD, "barge 0 1 = 200", "barge 1 1 = 60", "barge 2 1 = 30");
        of.says("2 for its draught,");
        of.run(TOLD, "barge 0 2 = 100", "barge 1 2 = 60", "barge 2 2 = 10", "load 2 1", "barge 2 2 = 11");
        of.says("3 for its cargo,");
        of.run(TOLD, "barge 0 3 = 60", "barge 1 3 = 0");
        of.says("4 for its ballast,");
        of.run(TOLD, "barge 0 4 = 40", "barge 1 4 = 0");
        of.says("5 for what its hold can still take,");
        of.run(TOLD, "barge 0 5 = 200", "barge 1 5 = 100", "pump 0 200", "barge 0 5 = 0");
    }

    private void bargeProperties() {
        of.says("6 for whether it is aground (1, otherwise 0),");
        // The depth is 109 * 100 / 1000 = 10 for the draught 11, whatever the floor is.
        of.run("addReach 1000 5000 88", "addBarge 0 10 21 2 10", "barge 0 6 = 1", "supply 0 1", "barge 0 6 = 0");
        of.run(OPEN, "enter 0 0", "barge 0 6 = 0", "supply 0 -2040", "supply 0 -680", "supply 0 -225", "barge 0 6 = 1");
        of.says("7 for where it is (a reach, or 100 plus a chamber),");
        of.run(TOLD, "barge 0 7 = 100", "barge 2 7 = 0", "addBarge 1 5 10 1 10", "barge 3 7 = 1");
        of.run(Sentences.DOUBLE, "addBarge 1 10 100 5 300", "barge 1 7 = 1", "enter 1 1", "barge 1 7 = 101");
        of.says("8 for its passages");
        of.run(TOLD, "barge 0 8 = 1", "barge 2 8 = 0", "leave 0 0", "barge 1 8 = 2", "enter 1 0", "barge 1 8 = 3");
        of.says("Returns the property;");
        of.run(CANAL, "addBarge 1 20 101 2 300", "barge 0 0 = 20", "barge 0 1 = 101", "barge 0 2 = 51", "barge 0 3 = 0",
                "barge 0 4 = 0", "barge 0 5 = 300", "barge 0 6 = 0", "barge 0 7 = 1", "barge 0 8 = 0");
        of.says("UNKNOWN;");
        of.run(OPEN, "barge 3 9 = UNKNOWN", "barge -1 -1 = UNKNOWN");
        of.says("BAD_VALUE.");
        of.outOfRange(OPEN, "barge 0 ?", 0, 8);
    }

    private void margin() {
        of.section("Promise 26: margin");
        // The chamber's level is 200, the barge's weight 110 in the reach 1, and its hold takes 275.
        String[] start = Sentences.join(CANAL, "sluice 0 0 = 200", "addBarge 1 20 100 2 285", "pump 0 10");
        of.says("Tells the most ballast or cargo that a barge could have more, so that it could still pass a gate of a"
                + " chamber");
        of.run(start, "setSill 0 0 45", "margin 0 0 0 = 180", "setSill 0 1 50", "margin 0 0 1 = 170", "margin 0 0 0 = 180");
        // 240 - 201 - 10 = 29, and 29 * 7 = 203
        of.run(CANAL, "addBarge 0 20 100 7 1000", "addBarge 0 60 500 20 10", "sluice 0 0 = 240", "setSill 0 0 201",
                "margin 0 0 0 = 103", "load 0 103", "margin 0 0 0 = 0", "load 0 1", "margin 0 0 0 = NONE");
        of.run(OPEN, "setSill 0 0 100", Sentences.times(4, "enter 0 0", "leave 0 0"), "margin 0 0 0 = 102", "dredge 0 0",
                "margin 0 0 0 = 104", "load 0 104", "enter 0 0");
        of.says("(by the reason 7 alone, wherever it is)");
        of.run(start, "margin 0 0 0 = 270");
        of.run(OPEN, "addBarge 1 41 500 20 1000", "setClearance 0", "setSill 0 1 100", "margin 3 0 1 = 1000", "enter 0 0",
                "margin 0 0 1 = 124", "close 0", "margin 0 0 1 = 124");
        // Aground in a reach, and longer than the chamber.
        of.run("addReach 1000 0 3000", "addChamber 500 10 0 10000 0 0", "addBarge 1 20 100 1 300", "barge 0 6 = 1",
                "sluice 0 0 = 200", "margin 0 0 0 = 90");
        of.says("at the present level of the chamber,");
        of.run(start, "setSill 0 0 45", "sluice 0 1", "chamber 0 0 = 406", "margin 0 0 0 = 275", "sluice 0 0", "chamber 0 0 = 268",
                "setSill 0 0 145", "margin 0 0 0 = 116");
        of.says("and its hold could take it.");
        of.run(start, "setClearance 0", "setSill 0 0 0", "margin 0 0 0 = 275", "setSill 0 0 7", "margin 0 0 0 = 275",
                "setSill 0 0 8", "margin 0 0 0 = 274");
        of.run(CANAL, "addBarge 0 60 500 20 10", "sluice 0 0", "margin 0 0 0 = 10", "load 0 10", "margin 0 0 0 = 0");
    }

    private void marginAnswers() {
        String[] start = Sentences.join(CANAL, "sluice 0 0 = 200", "addBarge 1 20 100 2 285");
        of.says("- `barge`: a barge");
        of.known(start, "margin ? 0 0", 1);
        of.unknown(CANAL, "margin ? 0 0", 0);
        of.says("- `chamber`: a chamber");
        of.known(start, "margin 0 ? 0", 1);
        of.unknown(new String[] {"addReach 1000 0 3000", "addBarge 0 20 100 2 300"}, "margin 0 ? 0", 0);
        of.says("- `gate`: 0 or 1");
        of.known(start, "margin 0 0 ?", 2);
        of.run(start, "margin 0 0 0 = 280");
        of.says("Returns the tons;");
        of.run(start, "setSill 0 0 139", "margin 0 0 0 = 2", "setSill 0 0 140", "margin 0 0 0 = 0");
        of.says("UNKNOWN;");
        of.run(start, "setSill 0 0 5000", "margin 1 0 0 = UNKNOWN", "margin 0 1 0 = UNKNOWN", "margin 0 0 2 = UNKNOWN",
                "margin 0 0 -1 = UNKNOWN");
        of.says("NONE if it could not pass even as it is.");
        of.run(start, "setSill 0 0 141", "margin 0 0 0 = NONE", "setSill 0 0 5000", "margin 0 0 0 = NONE", "setSill 0 0 140",
                "margin 0 0 0 = 0", "setClearance 11", "margin 0 0 0 = NONE");
        // The chamber is empty, so that less than 0 is left for a draught.
        of.run(CANAL, "addBarge 0 5 10 20 10", "margin 0 0 0 = NONE", "setSill 0 0 5000", "margin 0 0 0 = NONE");
    }

    private void flow() {
        of.section("Promise 27: flow");
        of.says("Tells how much water would flow into a chamber by the sluices of a gate (less than 0: out of it),");
        of.run(CANAL, "flow 0 0 = 1000", "flow 0 1 = 1665", "chamber 0 1 = 0", "sluice 0 1", "flow 0 1 = 0", "flow 0 0 = -110",
                "sluice 0 0", "chamber 0 1 = 1555", "flow 0 0 = 0");
        of.run("addReach 1000 0 3000", "addChamber 500 40 900 100 5000 10", "flow 0 0 = 0", "flow 0 1 = 10", "sluice 0 1",
                "flow 0 0 = -10", "flow 0 1 = 0");
        of.says("whatever gates are open.");
        of.run(CANAL, "sluice 0 1", "open 0 1", "flow 0 0 = -110", "flow 0 1 = 0");
        of.run(Sentences.UNSETTLED, "flow 0 1 = -70", "flow 1 0 = 0", Sentences.NOT_SHARED);
        of.says("- `chamber`: a chamber");
        of.known(CANAL, "flow ? 0", 1);
        of.known(FOUR, "flow ? 0", 4);
        of.unknown(NEW, "flow ? 0", 0);
        of.says("- `gate`: 0 or 1");
        of.known(CANAL, "flow 0 ?", 2);
        of.run(CANAL, "flow 0 0 = 1000");
        of.says("Returns the amount;");
        of.run(OPEN, "enter 0 0", "close 0", "flow 0 0 = 0", "supply 0 1000", "flow 0 0 = 335", "sluice 0 0",
                "chamber 0 1 = 1295");
        of.says("UNKNOWN.");
        of.run(CANAL, "flow 1 0 = UNKNOWN", "flow 0 2 = UNKNOWN", "flow -1 -1 = UNKNOWN");
    }

    private void account() {
        of.section("Promise 28: account");
        of.says("- `what`: 0 for all water in reaches and chambers,");
        of.run(TOLD, "account 0 = 5960", "close 0", "supply 1 500", "account 0 = 6460", "pump 0 -40", "account 0 = 6500");
        of.run(FOUR, "sluice 3 1", "account 0 = 15000", "supply 4 1", "account 0 = 15001");
        of.says("1 for all ballast,");
        of.run(TOLD, "account 1 = 40", "pump 2 7", "account 1 = 47", "pump 0 -40", "account 1 = 7");
        of.says("2 for all cargo,");
        of.run(TOLD, "account 2 = 60", "load 2 7", "account 2 = 67");
        of.says("3 for all weights,");
        of.run(TOLD, "account 3 = 290", "addBarge 1 5 10 1 10", "account 3 = 300");
        of.run(TWELVE, "account 3 = 120");
        of.says("4 for what came by supply() (less what went),");
        of.run(CANAL, "account 4 = 0", "supply 0 500", "supply 1 -700", "account 4 = -200", "supply 0 -3501 = REFUSED 8",
                "account 4 = -200", "undo", "account 4 = 500", "undo", "account 4 = 0");
        of.says("5 for the water with which reaches began,");
        of.run("account 5 = 0", "addReach 100 0 70", "account 5 = 70", "addChamber 100 10 0 100 0 5", "account 5 = 75",
                "supply 0 9", "account 5 = 75", "addReach 100 0 1 = FULL", "account 5 = 75", "undo", "undo", "account 5 = 70");
        of.says("6 for all passages");
        of.run(TOLD, "account 6 = 2", "leave 0 0", "account 6 = 3", "close 0", "sluice 0 1", "open 0 1", "leave 0 1",
                "account 6 = 4", "dredge 0 0 = NONE", "undo", "account 6 = 3");
        of.says("Returns the account;");
        of.run("addReach 100000 0 10000000", Sentences.times(4, "addChamber 100 10 0 100000 0 10000000"),
                "account 0 = 50000000", "account 5 = 50000000");
        of.says("BAD_VALUE.");
        of.outOfRange(CANAL, "account ?", 0, 6);
    }

    private void count() {
        of.section("Promise 29: count");
        of.says("- `what`: 0 for the number of reaches,");
        of.run("count 0 = 0", FOUR, "count 0 = 5", "undo", "count 0 = 4");
        of.says("1 for chambers,");
        of.run("count 1 = 0", "addReach 100 0 0", "count 1 = 0", "addChamber 100 10 0 100 0 0", "count 1 = 1", "undo",
                "count 1 = 0");
        of.run(FOUR, "count 1 = 4");
        of.says("2 for barges,");
        of.run(CANAL, "count 2 = 0", "addBarge 0 5 10 1 10", "count 2 = 1", "undo", "count 2 = 0");
        of.run(TWELVE, "count 2 = 12");
        of.says("3 for open gates,");
        of.run(Sentences.DOUBLE, "count 3 = 2", "close 0", "count 3 = 1", "close 1", "count 3 = 0");
        of.says("4 for barges that are aground,");
        of.run(TOLD, "count 4 = 0", "addChamber 500 40 0 1000 0 0", "addBarge 2 10 500 1 10", "count 4 = 1",
                "addBarge 2 10 500 1 10", "count 4 = 2", "addBarge 2 10 10 1 10", "count 4 = 2", "supply 2 4990", "count 4 = 0");
        of.says("5 for barges in chambers,");
        of.run(TOLD, "count 5 = 2", "leave 0 0", "count 5 = 1", "leave 0 0", "count 5 = 0");
        of.run(Sentences.DOUBLE, "addBarge 1 10 100 5 300", "addBarge 1 10 100 5 300", "enter 1 0", "enter 2 1", "count 5 = 2");
        of.says("6 for the clearance,");
        of.run("count 6 = 10", "setClearance 17", "count 6 = 17", "undo", "count 6 = 10");
        of.says("7 for the reason,");
        of.run(CANAL, "count 7 = 0", "open 0 0 = REFUSED 3", "count 7 = 3", "close 0 = REFUSED 2", "count 7 = 2", "sluice 0 0",
                "count 7 = 2", "undo", "count 7 = 2");
    }

    private void countHistoryAndText() {
        of.says("8 for the states in the history,");
        of.run("count 8 = 0", "setClearance 1", "count 8 = 1", Sentences.times(4, "setClearance 1"), "count 8 = 5",
                "setClearance 1", "count 8 = 5", "undo", "count 8 = 4", "undo", "undo", "undo", "undo", "count 8 = 0");
        of.says("9 for the length of the text");
        of.run("count 9 = 0", "type 32", "count 9 = 1", Sentences.times(59, "type 32"), "count 9 = 60", "type 32 = FULL",
                "count 9 = 60", "clearText", "count 9 = 0");
        of.says("Returns the number;");
        of.run(TOLD, "count 0 = 2", "count 1 = 1", "count 2 = 3", "count 3 = 1", "count 4 = 0", "count 5 = 2", "count 6 = 10",
                "count 7 = 0", "count 8 = 5", "count 9 = 0");
        of.says("BAD_VALUE.");
        of.outOfRange(CANAL, "count ?", 0, 9);
    }
}
