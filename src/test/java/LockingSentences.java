/** Sentences of promises 11 to 15: locking. */
final class LockingSentences {
    private static final String[] NEW = {};
    private static final String[] CANAL = Sentences.CANAL;
    private static final String[] OPEN = Sentences.OPEN;
    private static final String[] FOUR =
            Sentences.join("addReach 1000 0 3000", Sentences.times(4, "addChamber 100 10 0 1000 0 3000"));
    /** All levels are 200, so that each gate can be opened. */
    private static final String[] EVEN = {"addReach 1000 0 3000", "addChamber 500 40 0 1000 0 2000", "sluice 0 0 = 200"};
    /** The open canal where the barge 0 lies in the chamber, next to both gates. */
    private static final String[] ENTERED = Sentences.join(OPEN, "enter 0 0 = 20");
    /** Drains the open canal with the barge 0 in the chamber, so that it is aground. */
    private static final String[] DRAIN = {"supply 0 -2040", "supply 0 -680", "supply 0 -225", "barge 0 6 = 1"};
    private final Sentences of;

    LockingSentences(Sentences sentences) {
        of = sentences;
    }

    void test() {
        sluice();
        open();
        openRefusals();
        close();
        enter();
        enterRefusals();
        enterRoomAndDepth();
        leave();
        leaveRefusals();
    }

    private void sluice() {
        of.section("Promise 11: sluice");
        of.says("Fills or empties a chamber by the sluices of a gate.");
        of.run(CANAL, "sluice 0 0", "chamber 0 1 = 1000", "reach 0 1 = 2000", "reach 1 1 = 3000", "sluice 0 1",
                "chamber 0 1 = 2000", "reach 1 1 = 2000", "sluice 0 0", "chamber 0 1 = 1330", "reach 0 1 = 2670");
        of.says("This is an act.");
        of.records(CANAL, "sluice 0 0");
        of.records(Sentences.join(CANAL, "sluice 0 0"), "sluice 0 0");
        String[] supplied = Sentences.join(Sentences.DOUBLE, "close 1", "supply 2 1000");
        of.run(supplied, "sluice 1 1 = 316", "chamber 0 1 = 750", "reach 1 1 = 1500", "chamber 1 1 = 1580",
                "sluice 1 0 = 205", "chamber 1 1 = 1025", "reach 1 1 = 1870", "chamber 0 1 = 935");
        of.says("- `chamber`: a chamber");
        of.known(CANAL, "sluice ? 0", 1);
        of.known(FOUR, "sluice ? 0", 4);
        of.unknown(NEW, "sluice ? 0", 0);
        of.says("- `gate`: 0 or 1");
        of.known(CANAL, "sluice 0 ?", 2);
        of.run(CANAL, "sluice 0 0 = 200");
        of.says("Returns the level of the chamber then;");
        of.run(CANAL, "sluice 0 0 = 200", "sluice 0 1 = 400", "sluice 0 1 = 400");
        of.run("addReach 1000 0 3000", "addChamber 500 40 900 100 0 0", "sluice 0 0 = 900");
        of.says("UNKNOWN;");
        of.run(OPEN, "sluice 0 2 = UNKNOWN", "sluice 0 -1 = UNKNOWN", "sluice 1 0 = UNKNOWN", "count 7 = 0");
        of.says("REFUSED for the reason 1.");
        of.run(OPEN, "sluice 0 0 = REFUSED 1", "sluice 0 1 = REFUSED 1", "close 0", "sluice 0 0 = 212");
        of.run(EVEN, "open 0 1", "sluice 0 0 = REFUSED 1", "sluice 0 1 = REFUSED 1", "close 0", "sluice 0 1 = 200");
    }

    private void open() {
        of.section("Promise 12: open");
        of.says("Opens a gate.");
        of.run(EVEN, "open 0 1", "chamber 0 8 = 1", "count 3 = 1", "close 0", "open 0 0", "chamber 0 8 = 0", "count 3 = 1");
        of.says("This is an act.");
        of.records(EVEN, "open 0 1");
        of.run(CANAL, "sluice 0 0", "supply 0 29", "open 0 0 = 201", "chamber 0 1 = 1005", "reach 0 1 = 2024");
        of.says("- `chamber`: a chamber");
        of.known(EVEN, "open ? 0", 1);
        of.known(Sentences.join(FOUR, "sluice 3 0"), "open ? 0", 4);
        of.unknown(NEW, "open ? 0", 0);
        of.says("- `gate`: 0 or 1");
        of.known(EVEN, "open 0 ?", 2);
        of.run(EVEN, "open 0 0 = 200");
        of.says("Returns the level of the chamber then;");
        of.run(EVEN, "open 0 1 = 200");
        of.run(CANAL, "sluice 0 0", "supply 0 -20", "open 0 0 = 198");
        of.says("UNKNOWN;");
        of.run(OPEN, "open 0 2 = UNKNOWN", "open 0 -1 = UNKNOWN", "open 1 0 = UNKNOWN", "count 7 = 0");
    }

    private void openRefusals() {
        of.says("REFUSED for the reasons 1");
        of.run(EVEN, "open 0 0", "open 0 0 = REFUSED 1", "open 0 1 = REFUSED 1", "chamber 0 8 = 0", "close 0", "open 0 1",
                "open 0 0 = REFUSED 1", "open 0 1 = REFUSED 1", "chamber 0 8 = 1");
        of.says("and 3.");
        // The chamber is higher by 3, by 2, lower by 2, by 3; then the same at the gate 1.
        of.run(EVEN, "supply 0 -21 = 197", "open 0 0 = REFUSED 3", "supply 0 1 = 198", "open 0 0");
        of.run(EVEN, "supply 0 30 = 203", "open 0 0 = REFUSED 3", "supply 0 -1 = 202", "open 0 0");
        of.run(EVEN, "supply 1 -21 = 197", "open 0 1 = REFUSED 3", "supply 1 1 = 198", "open 0 1");
        of.run(EVEN, "supply 1 30 = 203", "open 0 1 = REFUSED 3", "supply 1 -1 = 202", "open 0 1");
        // Levels differ by 300 at the gate 0, and by 5000 at the gate 1, where there is no water at all.
        of.run("addReach 1000 0 3000", "addChamber 500 40 0 1000 5000 0", "open 0 0 = REFUSED 3", "open 0 1 = REFUSED 3");
    }

    private void close() {
        of.section("Promise 13: close");
        of.says("Closes the open gate of a chamber.");
        of.run(OPEN, "count 3 = 1", "close 0", "chamber 0 8 = NONE", "count 3 = 0", "supply 0 1000", "chamber 0 1 = 1060");
        of.says("This is an act.");
        of.records(OPEN, "close 0");
        of.run(Sentences.UNSETTLED, "close 0", "chamber 0 1 = 1080", "reach 1 1 = 1950", "chamber 1 1 = 970");
        of.run(Sentences.UNSETTLED, "close 1", "chamber 0 1 = 1010", "reach 1 1 = 2020", "chamber 1 1 = 970");
        of.says("- `chamber`: a chamber");
        of.known(OPEN, "close ?", 1);
        of.known(Sentences.join(FOUR, "sluice 3 0", "open 3 0"), "close ?", 4);
        of.unknown(NEW, "close ?", 0);
        of.says("Returns the gate;");
        of.run(EVEN, "open 0 0", "close 0 = 0", "open 0 1", "close 0 = 1");
        of.says("UNKNOWN;");
        of.run(CANAL, "close 1 = UNKNOWN", "close -1 = UNKNOWN", "count 7 = 0");
        of.says("REFUSED for the reason 2 if no gate is open.");
        of.run(CANAL, "close 0 = REFUSED 2");
        of.run(OPEN, "close 0", "close 0 = REFUSED 2", "open 0 0", "close 0 = 0");
        of.run(Sentences.DOUBLE, "close 0", "close 0 = REFUSED 2", "close 1 = 0");
    }

    private void enter() {
        of.section("Promise 14: enter");
        of.says("A barge enters a chamber by its open gate.");
        of.run(ENTERED, "barge 0 7 = 100", "barge 0 8 = 1", "lying 0 0 = 0", "lying 0 1 = NONE", "chamber 0 1 = 960",
                "chamber 0 2 = 100", "chamber 0 3 = 1", "chamber 0 7 = 20", "chamber 0 11 = 1", "chamber 0 12 = 0",
                "reach 0 1 = 2040", "reach 0 2 = 90", "reach 0 3 = 2", "count 5 = 1", "account 6 = 1");
        of.run(EVEN, "addBarge 1 10 30 3 50", "sluice 0 1", "open 0 1", "enter 0 0", "barge 0 7 = 100", "reach 1 3 = 0",
                "chamber 0 11 = 0", "chamber 0 12 = 1");
        of.says("This is an act.");
        of.records(OPEN, "enter 2 0");
        of.run(OPEN, "chamber 0 1 = 1060", "enter 1 0", "chamber 0 1 = 1000", "reach 0 1 = 2000");
        of.says("- `barge`: a barge");
        of.known(OPEN, "enter ? 0", 3);
        of.unknown(CANAL, "enter ? 0", 0);
        of.says("- `chamber`: a chamber");
        of.known(OPEN, "enter 0 ?", 1);
        of.unknown(new String[] {"addReach 100 0 500", "addBarge 0 5 10 1 10"}, "enter 0 ?", 0);
        of.says("Returns the length that is left in the chamber then;");
        of.run(OPEN, "enter 0 0 = 20", "enter 2 0 = 10", "undo", "enter 1 0 = 5");
        of.says("UNKNOWN;");
        of.run(CANAL, "enter 0 0 = UNKNOWN", "addBarge 0 20 100 2 300", "enter 1 0 = UNKNOWN", "enter 0 1 = UNKNOWN",
                "enter -1 0 = UNKNOWN", "enter 0 -1 = UNKNOWN", "count 7 = 0");
    }

    private void enterRefusals() {
        of.says("REFUSED for the reasons 2,");
        of.run(CANAL, "addBarge 0 20 100 2 300", "addBarge 1 20 100 2 300", "enter 0 0 = REFUSED 2", "enter 1 0 = REFUSED 2");
        of.run(ENTERED, "close 0", "enter 0 0 = REFUSED 2", "enter 1 0 = REFUSED 2");
        of.says("4,");
        of.run(OPEN, "addBarge 1 5 10 1 10", "enter 3 0 = REFUSED 4", "enter 0 0", "enter 0 0 = REFUSED 4");
        of.run(EVEN, "addBarge 0 5 10 1 10", "addBarge 1 5 10 1 10", "sluice 0 1", "open 0 1", "enter 0 0 = REFUSED 4",
                "enter 1 0 = 35");
        // In the chamber 1, which is not the reach 1.
        of.run(Sentences.DOUBLE, "addBarge 1 10 100 5 300", "enter 1 1 = 30", "enter 1 0 = REFUSED 4", "enter 0 0 = REFUSED 4");
        of.says("5,");
        // t = 1500, h = 100 for the draught 100; then t = 1494, h = 99.
        String[] just = {"addReach 1000 0 1400", "addChamber 500 40 0 1000 0 0", "addBarge 0 20 100 1 300",
            "setClearance 0", "sluice 0 0", "open 0 0", "reach 0 0 = 100"};
        of.run(just, "enter 0 0 = 20");
        of.run(just, "supply 0 -6 = 99", "enter 0 0 = REFUSED 5");
        // The depth is what counts, whatever the floor is.
        of.run("addReach 1000 5000 899", "addChamber 500 40 0 1000 0 0", "addBarge 0 20 100 1 300", "setClearance 0",
                "enter 0 0 = REFUSED 2", "barge 0 6 = 1");
    }

    private void enterRoomAndDepth() {
        of.says("6");
        of.run(CANAL, "addBarge 0 40 100 2 300", "addBarge 0 41 100 2 300", "sluice 0 0", "open 0 0", "enter 1 0 = REFUSED 6",
                "enter 0 0 = 0", "chamber 0 7 = 0");
        of.run(ENTERED, "addBarge 0 21 10 1 10", "addBarge 0 20 10 1 10", "enter 3 0 = REFUSED 6", "enter 4 0 = 0");
        of.says("and 7.");
        of.run(OPEN, "setSill 0 1 5000", "setSill 0 0 153", "enter 0 0 = REFUSED 7", "setSill 0 0 152", "enter 0 0 = 20");
        of.run(OPEN, "setSill 0 0 152", "setClearance 11", "enter 0 0 = REFUSED 7", "setClearance 10", "enter 0 0 = 20");
        of.run(OPEN, "setSill 0 0 152", "load 0 1 = 51", "enter 0 0 = REFUSED 7", "load 0 -1 = 50", "enter 0 0 = 20");
        of.run(OPEN, "setSill 0 0 5000", "setClearance 0", "enter 2 0 = REFUSED 7");
        of.run(OPEN, "setSill 0 0 152", Sentences.times(4, "enter 0 0", "leave 0 0"), "enter 0 0 = REFUSED 7", "dredge 0 0",
                "enter 0 0 = 20");
    }

    private void leave() {
        of.section("Promise 15: leave");
        of.says("The barge next to a gate leaves by it.");
        of.run(ENTERED, "enter 1 0", "leave 0 0", "barge 1 7 = 0", "barge 1 8 = 2", "barge 0 7 = 100", "chamber 0 7 = 20",
                "chamber 0 11 = 3", "lying 0 0 = 0", "lying 0 1 = NONE", "reach 0 3 = 2", "chamber 0 1 = 960");
        of.run(ENTERED, "enter 1 0", "close 0", "sluice 0 1", "open 0 1", "leave 0 1", "barge 0 7 = 1", "barge 1 7 = 100",
                "lying 0 0 = 1", "lying 0 1 = NONE", "chamber 0 12 = 1", "chamber 0 11 = 2", "reach 1 3 = 1");
        of.says("This is an act.");
        of.records(ENTERED, "leave 0 0");
        of.run(ENTERED, "chamber 0 1 = 960", "leave 0 0", "chamber 0 1 = 1060", "reach 0 1 = 1940");
        of.says("- `chamber`: a chamber");
        of.known(ENTERED, "leave ? 0", 1);
        of.unknown(NEW, "leave ? 0", 0);
        of.says("- `gate`: 0 or 1");
        of.unknown(ENTERED, "leave 0 ?", 2);
        of.run(ENTERED, "leave 0 0 = 0");
        of.run(ENTERED, "close 0", "sluice 0 1", "open 0 1", "leave 0 1 = 0");
        of.says("Returns the barge;");
        of.run(OPEN, "enter 2 0", "enter 1 0", "leave 0 0 = 1", "leave 0 0 = 2");
        of.says("UNKNOWN;");
        of.run(ENTERED, "leave 1 0 = UNKNOWN", "leave -1 0 = UNKNOWN", "leave 0 2 = UNKNOWN", "leave 0 -1 = UNKNOWN",
                "count 7 = 0");
    }

    private void leaveRefusals() {
        of.says("REFUSED for the reasons 2,");
        of.run(ENTERED, "leave 0 1 = REFUSED 2", "close 0", "leave 0 0 = REFUSED 2", "leave 0 1 = REFUSED 2");
        of.run(OPEN, "leave 0 1 = REFUSED 2", "close 0", "leave 0 0 = REFUSED 2");
        of.says("4 (there is none),");
        of.run(OPEN, "leave 0 0 = REFUSED 4", "enter 0 0", "leave 0 0 = 0", "leave 0 0 = REFUSED 4");
        of.says("5");
        // The depth 20 for the draught 50; then it floats with all of it.
        of.run(ENTERED, DRAIN, "leave 0 0 = REFUSED 5", "supply 0 2945", "leave 0 0 = 0");
        // t = 750 makes the depth 50 for the draught 50; t = 749 makes 49 in the chamber.
        of.run(ENTERED, "setClearance 0", "supply 0 -2040", "supply 0 -400", "chamber 0 0 = 50", "barge 0 6 = 0", "leave 0 0 = 0");
        of.run(ENTERED, "setClearance 0", "supply 0 -2040", "supply 0 -401", "chamber 0 0 = 49", "barge 0 6 = 1", "leave 0 0 = REFUSED 5");
        of.says("and 7.");
        of.run(ENTERED, "setSill 0 1 5000", "setSill 0 0 153", "leave 0 0 = REFUSED 7", "setSill 0 0 152", "leave 0 0 = 0");
        of.run(ENTERED, "setSill 0 0 152", "setClearance 11", "leave 0 0 = REFUSED 7", "setClearance 10", "leave 0 0 = 0");
        of.run(ENTERED, "setSill 0 0 152", "pump 0 1 = 51", "leave 0 0 = REFUSED 7", "pump 0 -1 = 50", "leave 0 0 = 0");
    }
}
