/** Sentences of promises 1 to 7: a new object, and the canal. */
final class CanalSentences {
    private static final String[] NEW = {};
    private static final String[] REACH = {"addReach 1000 0 3000"};
    private static final String[] CANAL = Sentences.CANAL;
    private static final String[] FOUR = Sentences.join(REACH, Sentences.times(4, "addChamber 100 10 0 100 0 0"));
    /** The open canal with the mud 1 on the sill 0, whose own height is 20. */
    private static final String[] MUDDY =
            Sentences.join(Sentences.OPEN, "setSill 0 0 20", Sentences.times(4, "enter 0 0", "leave 0 0"));
    private final Sentences of;

    CanalSentences(Sentences sentences) {
        of = sentences;
    }

    void test() {
        newObject();
        addReach();
        addChamber();
        addChamberRanges();
        addChamberAnswers();
        setSill();
        setClearance();
        dredge();
        supply();
        supplyLimits();
    }

    private void newObject() {
        of.section("Promise 1: A new object");
        of.says("Creates a canal without reaches.");
        of.run("count 0 = 0", "count 1 = 0", "count 2 = 0", "count 3 = 0", "count 4 = 0", "count 5 = 0", "count 6 = 10",
                "count 7 = 0", "count 8 = 0", "count 9 = 0", "account 0 = 0", "account 1 = 0", "account 2 = 0",
                "account 3 = 0", "account 4 = 0", "account 5 = 0", "account 6 = 0", "reach 0 0 = UNKNOWN",
                "chamber 0 0 = UNKNOWN", "barge 0 0 = UNKNOWN", "lying 0 0 = UNKNOWN", "supply 0 1 = UNKNOWN");
        of.run("undo = NONE", "restore 0 = NONE", "restore 1 = NONE", "clearText = 0", "runOrders = -100");
    }

    private void addReach() {
        of.section("Promise 2: addReach");
        of.says("Adds the first reach.");
        of.run("addReach 700 30 1000", "count 0 = 1", "reach 0 0 = 172", "reach 0 1 = 1000", "reach 0 2 = 0",
                "reach 0 3 = 0", "reach 0 4 = 700", "reach 0 5 = 30", "account 5 = 1000", "reach 1 0 = UNKNOWN");
        of.says("This is an act.");
        of.records(NEW, "addReach 700 30 1000");
        of.says("- `area`: 100 to 100000");
        of.range(NEW, "addReach ? 0 0", 100, 100000);
        of.says("- `floor`: 0 to 5000");
        of.range(NEW, "addReach 100 ? 0", 0, 5000);
        of.says("- `water`: 0 to 10000000");
        of.range(NEW, "addReach 100 0 ?", 0, 10000000);
        of.says("Returns 0;");
        of.run("addReach 100 0 50 = 0");
        of.says("BAD_VALUE;");
        of.run(REACH, "addReach 99 0 0 = BAD_VALUE", "addReach 100 5001 0 = BAD_VALUE", "addReach 100 0 -1 = BAD_VALUE");
        of.says("FULL if there is a reach already.");
        of.run(REACH, "addReach 100 0 0 = FULL", "reach 0 4 = 1000", "undo = 0", "addReach 100 0 0 = 0");
        of.run(CANAL, "addReach 100 0 0 = FULL");
    }

    private void addChamber() {
        of.section("Promise 3: addChamber");
        of.says("Adds a chamber above the uppermost reach, without water, and with the sills 0.");
        of.run(REACH, "addChamber 500 40 100 2000 200 8000", "count 1 = 1", "chamber 0 0 = 100", "chamber 0 1 = 0",
                "chamber 0 2 = 0", "chamber 0 3 = 0", "chamber 0 4 = 500", "chamber 0 5 = 100", "chamber 0 6 = 40",
                "chamber 0 7 = 40", "chamber 0 8 = NONE", "chamber 0 9 = 0", "chamber 0 10 = 0", "chamber 0 11 = 0",
                "chamber 0 12 = 0", "addChamber 600 50 0 100 0 0", "sluice 1 0", "reach 1 1 = 5234");
        of.says("This is an act.");
        of.records(REACH, "addChamber 500 40 100 2000 200 8000");
        of.records(CANAL, "addChamber 500 40 100 2000 200 8000");
        of.shares("addChamber 500 40 100 2000 200 8000 = 2");
        of.says("The reach above it is added by the same call.");
        of.run(REACH, "addChamber 500 40 100 2000 200 8000", "count 0 = 2", "reach 1 0 = 600", "reach 1 1 = 8000",
                "reach 1 2 = 0", "reach 1 3 = 0", "reach 1 4 = 2000", "reach 1 5 = 200", "account 5 = 11000");
    }

    private void addChamberRanges() {
        of.says("- `area`: of the chamber, 100 to 100000");
        of.range(REACH, "addChamber ? 10 0 100 0 0", 100, 100000);
        of.says("- `length`: 10 to 200");
        of.range(REACH, "addChamber 100 ? 0 100 0 0", 10, 200);
        of.says("- `floor`: of the chamber, 0 to 5000");
        of.range(REACH, "addChamber 100 10 ? 100 0 0", 0, 5000);
        of.says("- `reachArea`: 100 to 100000");
        of.range(REACH, "addChamber 100 10 0 ? 0 0", 100, 100000);
        of.says("- `reachFloor`: 0 to 5000");
        of.range(REACH, "addChamber 100 10 0 100 ? 0", 0, 5000);
        of.says("- `reachWater`: 0 to 10000000");
        of.range(REACH, "addChamber 100 10 0 100 0 ?", 0, 10000000);
    }

    private void addChamberAnswers() {
        of.says("Returns the number of the chamber;");
        of.run(REACH, "addChamber 100 10 0 100 0 0 = 0", "addChamber 100 10 0 100 0 0 = 1", "undo",
                "addChamber 100 10 0 100 0 0 = 1", "addChamber 100 10 0 100 0 0 = 2", "addChamber 100 10 0 100 0 0 = 3");
        of.says("BAD_VALUE;");
        String[] bad = {"addChamber 99 10 0 100 0 0", "addChamber 100 9 0 100 0 0", "addChamber 100 10 -1 100 0 0",
            "addChamber 100 10 0 99 0 0", "addChamber 100 10 0 100 -1 0", "addChamber 100 10 0 100 0 -1"};
        for (String call : bad) {
            of.run(call + " = BAD_VALUE");
            of.run(FOUR, call + " = BAD_VALUE");
        }
        of.says("FULL if there are 4 chambers, or no reach.");
        of.run(FOUR, "addChamber 100 10 0 100 0 0 = FULL", "count 0 = 5", "count 1 = 4", "undo",
                "addChamber 100 10 0 100 0 0 = 3", "addChamber 100 10 0 100 0 0 = FULL");
        of.run("addChamber 100 10 0 100 0 0 = FULL", "count 0 = 0", "count 1 = 0", REACH, "addChamber 100 10 0 100 0 0 = 0",
                "undo", "undo", "addChamber 100 10 0 100 0 0 = FULL");
    }

    private void setSill() {
        of.section("Promise 4: setSill");
        of.says("Sets a sill.");
        of.run(CANAL, "setSill 0 0 120", "chamber 0 9 = 120", "chamber 0 10 = 0", "setSill 0 1 7", "chamber 0 9 = 120",
                "chamber 0 10 = 7", "setSill 0 0 0", "chamber 0 9 = 0");
        of.says("This is an act.");
        of.records(CANAL, "setSill 0 1 120");
        of.records(CANAL, "setSill 0 1 0");
        of.shares("setSill 1 1 120 = 0");
        of.says("- `chamber`: a chamber");
        of.known(CANAL, "setSill ? 0 5", 1);
        of.known(FOUR, "setSill ? 0 5", 4);
        of.unknown(NEW, "setSill ? 0 5", 0);
        of.says("- `gate`: 0 or 1");
        of.known(CANAL, "setSill 0 ? 5", 2);
        of.says("- `height`: 0 to 5000");
        of.range(CANAL, "setSill 0 0 ?", 0, 5000);
        of.range(CANAL, "setSill 0 1 ?", 0, 5000);
        of.says("Returns the previous own height;");
        of.run(CANAL, "setSill 0 0 120 = 0", "setSill 0 0 5000 = 120", "setSill 0 0 0 = 5000", "setSill 0 0 0 = 0");
        of.run(MUDDY, "chamber 0 9 = 21", "setSill 0 0 30 = 20", "chamber 0 9 = 31");
        of.says("UNKNOWN;");
        of.run(CANAL, "setSill 1 0 -1 = UNKNOWN", "setSill 0 2 5001 = UNKNOWN", "setSill 1 2 0 = UNKNOWN");
        of.says("BAD_VALUE.");
        of.run(CANAL, "setSill 0 0 -1 = BAD_VALUE", "setSill 0 1 5001 = BAD_VALUE", "chamber 0 9 = 0", "chamber 0 10 = 0");
    }

    private void setClearance() {
        of.section("Promise 5: setClearance");
        of.says("Sets the clearance.");
        of.run("setClearance 17", "count 6 = 17");
        of.says("This is an act.");
        of.records(CANAL, "setClearance 17");
        of.records(CANAL, "setClearance 10");
        of.shares("setClearance 17 = 10");
        of.says("- `clearance`: 0 to 50");
        of.range(NEW, "setClearance ?", 0, 50);
        of.says("Returns the previous one;");
        of.run("setClearance 0 = 10", "setClearance 50 = 0", "setClearance 50 = 50", "setClearance 10 = 50");
        of.says("BAD_VALUE.");
        of.run("setClearance 51 = BAD_VALUE", "setClearance -1 = BAD_VALUE", "count 6 = 10");
    }

    private void dredge() {
        of.section("Promise 6: dredge");
        of.says("Dredges a sill.");
        of.run(MUDDY, "chamber 0 9 = 21", "dredge 0 0", "chamber 0 9 = 20", "chamber 0 11 = 8");
        of.says("This is an act.");
        of.records(MUDDY, "dredge 0 0");
        // The barge 1 makes the sill of the chamber 1 muddy, ahead of the water that flows then.
        String[] muddy = Sentences.join(Sentences.DOUBLE, "addBarge 1 10 100 5 300",
                Sentences.times(4, "enter 1 1 = 30", "leave 1 0 = 1"), "supply 1 100000 = 4599");
        of.run(muddy, "chamber 0 1 = 34110", "reach 1 1 = 45895", "chamber 1 1 = 22995");
        of.run(muddy, "dredge 1 0 = 1", "chamber 0 1 = 26700", "reach 1 1 = 50835", "chamber 1 1 = 25465");
        of.says("- `chamber`: a chamber");
        of.unknown(MUDDY, "dredge ? 0", 1);
        of.unknown(NEW, "dredge ? 0", 0);
        of.says("- `gate`: 0 or 1");
        of.unknown(MUDDY, "dredge 0 ?", 2);
        of.run(MUDDY, "dredge 0 0 = 1", "dredge 0 1 = NONE");
        of.says("Returns the mud that it had;");
        of.run(MUDDY, "dredge 0 0 = 1", Sentences.times(8, "enter 0 0", "leave 0 0"), "dredge 0 0 = 2",
                "chamber 0 9 = 20", "dredge 0 0 = NONE");
        of.says("UNKNOWN;");
        of.run(MUDDY, "dredge 1 0 = UNKNOWN", "dredge 0 2 = UNKNOWN", "dredge 1 -1 = UNKNOWN");
        of.says("NONE if it had none.");
        of.run(MUDDY, "dredge 0 1 = NONE", "dredge 0 0 = 1", "dredge 0 0 = NONE", "count 8 = 5", "undo", "dredge 0 0 = 1");
        of.run(Sentences.UNSETTLED, "dredge 0 0 = NONE", Sentences.NOT_SHARED);
    }

    private void supply() {
        of.section("Promise 7: supply");
        of.says("Lets water come to a reach, or go from it.");
        of.run(CANAL, "supply 1 509", "reach 1 1 = 3509", "reach 0 1 = 3000", "account 4 = 509", "supply 1 -1009",
                "reach 1 1 = 2500", "account 4 = -500", "account 5 = 6000");
        of.says("This is an act.");
        of.records(CANAL, "supply 0 77");
        of.records(CANAL, "supply 0 0");
        of.shares("supply 2 0");
        of.says("- `reach`: a reach");
        of.known(CANAL, "supply ? 1", 2);
        of.known(FOUR, "supply ? 1", 5);
        of.unknown(NEW, "supply ? 1", 0);
        of.says("- `amount`: -1000000 to 1000000");
        of.range(new String[] {"addReach 1000 0 1000000"}, "supply 0 ?", -1000000, 1000000);
        of.run(CANAL, "supply 0 0 = 300");
        of.says("Returns the level of the reach then;");
        of.run(CANAL, "supply 0 509 = 350", "supply 0 -9 = 350", "supply 1 -3000 = 200");
        of.run(CANAL, "sluice 0 0", "open 0 0", "supply 0 150 = 210");
        of.says("UNKNOWN;");
        of.run(CANAL, "supply 2 1000001 = UNKNOWN", "supply -1 -1000001 = UNKNOWN");
        of.says("BAD_VALUE;");
        of.run(CANAL, "supply 0 1000001 = BAD_VALUE", "supply 0 -1000001 = BAD_VALUE", "reach 0 1 = 3000", "count 7 = 0");
    }

    private void supplyLimits() {
        of.says("REFUSED for the reason 8 if it has not so much,");
        of.run(CANAL, "supply 0 -3001 = REFUSED 8", "reach 0 1 = 3000", "account 4 = 0", "supply 0 -3000 = 0",
                "supply 0 -1 = REFUSED 8", "supply 0 0 = 0");
        // What floats is no water, and the chamber's water is not the reach's.
        of.run(CANAL, "addBarge 0 20 100 2 300", "supply 0 -3001 = REFUSED 8", "supply 0 -3000 = 10");
        of.run(CANAL, "sluice 0 0", "open 0 0", "reach 0 1 = 2000", "supply 0 -2001 = REFUSED 8", "supply 0 -2000");
        of.says("or would have more than 100000000.");
        String[] full = Sentences.join("addReach 100 0 10000000", Sentences.times(90, "supply 0 1000000"));
        of.run(full, "reach 0 1 = 100000000", "reach 0 0 = 100000000", "supply 0 1 = REFUSED 8",
                "supply 0 1000000 = REFUSED 8", "reach 0 1 = 100000000", "supply 0 0", "supply 0 -1", "supply 0 2 = REFUSED 8",
                "supply 0 1 = 100000000");
        // A chamber that is emptied brings the reach above the limit: then it still has too much with less.
        // h = 1000000000 / 200 = 5000000, then t = 105000000 and h = 10500000000 / 100100 = 104895.
        String[] above = Sentences.join("addReach 100000 0 10000000", Sentences.times(90, "supply 0 1000000"),
                "addChamber 100 10 0 100 0 10000000", "sluice 0 1 = 5000000", "sluice 0 0 = 104895");
        of.run(above, "reach 0 1 = 104895105", "supply 0 -1 = REFUSED 8", "supply 0 0 = REFUSED 8", "supply 0 1 = REFUSED 8",
                "supply 0 -1000000 = REFUSED 8", "reach 0 1 = 104895105", "account 4 = 90000000");
    }
}
