/** Sentences of the terms on waters, sharing, gates and barges. */
final class TermSentences {
    private static final String[] CANAL = Sentences.CANAL;
    private static final String[] OPEN = Sentences.OPEN;
    private final Sentences of;

    TermSentences(Sentences sentences) {
        of = sentences;
    }

    void test() {
        of.section("Terms");
        numbers();
        waters();
        chambers();
        sharing();
        gates();
        sharingBehindActs();
        barges();
        ballast();
        stacks();
        sills();
    }

    private void numbers() {
        of.says("Heights are in centimeters, weights in tons, water in cubic meters (one ton each), areas in square"
                + " meters, lengths in meters.");
        of.run("addReach 100 7 1", "reach 0 0 = 8", "addBarge 0 5 10 1 10", "reach 0 0 = 18", "barge 0 2 = 10");
        of.says("All divisions round down, also of negative numbers.");
        // 29900 / 300 = 99.67
        of.run("addReach 300 0 299", "reach 0 0 = 99");
        // h = 301400 / 1500 = 200.93
        of.run(CANAL, "supply 0 14", "sluice 0 0 = 200", "chamber 0 1 = 1000");
        // h = 201, 150 * 201 / 100 = 301.5, 30100 / 150 = 200.67
        of.run("addReach 1000 0 2312", "addChamber 150 40 0 1000 0 0", "sluice 0 0 = 200", "chamber 0 1 = 301");
        // h = 0, 101 * (0 - 1) / 100 = -1.01, and what is less than 0 is 0.
        of.run("addReach 5000 0 0", "addChamber 101 40 1 1000 0 0", "flow 0 0 = 0", "sluice 0 0 = 1");
        of.says("Nothing overflows when it is computed in longs.");
        of.run("addReach 100000 5000 10000000", Sentences.times(15, "supply 0 1000000"), "reach 0 1 = 25000000",
                "reach 0 0 = 30000", "addChamber 100000 200 5000 100000 5000 10000000", "sluice 0 0 = 17500",
                "chamber 0 1 = 12500000", "flow 0 1 = -1250000", "account 0 = 35000000");
        // h = 2200000000 / 100100 = 21978, and 100000 * 21978 = 2197800000
        of.run("addReach 100 0 10000000", Sentences.times(12, "supply 0 1000000"), "addChamber 100000 10 0 100 0 0",
                "flow 0 0 = 21978000", "sluice 0 0 = 21978", "chamber 0 1 = 21978000", "reach 0 1 = 22000");
        // h = 10000000000 / 100100 = 99900; then 199 and 298 millions are shared, so that h = 198801 and h = 297702.
        String[] full = Sentences.join("addReach 100 0 10000000", Sentences.times(90, "supply 0 1000000"),
                "addChamber 100000 10 0 100 0 0", "sluice 0 0 = 99900", "reach 0 1 = 100000");
        of.run(full, Sentences.times(99, "supply 0 1000000"), "sluice 0 0 = 198801", "chamber 0 1 = 198801000",
                "reach 0 1 = 199000", Sentences.times(99, "supply 0 1000000"), "sluice 0 0 = 297702",
                "chamber 0 1 = 297702000", "reach 0 1 = 298000", "account 0 = 298000000", "account 4 = 288000000",
                "account 5 = 10000000");
    }

    private void waters() {
        of.saysOnly("Waters.");
        of.says("There are up to 5 reaches, numbered from 0 upwards along the canal, and up to 4 chambers;");
        String[] five = {"addReach 100 0 100 = 0", "addChamber 100 10 0 100 0 200 = 0",
            "addChamber 100 10 0 100 0 300 = 1", "addChamber 100 10 0 100 0 400 = 2",
            "addChamber 100 10 0 100 0 500 = 3"};
        of.run(five, "addChamber 100 10 0 100 0 600 = FULL", "addReach 100 0 600 = FULL", "count 0 = 5",
                "count 1 = 4", "reach 0 1 = 100", "reach 4 1 = 500", "reach 5 1 = UNKNOWN", "chamber 4 1 = UNKNOWN");
        of.says("the chamber k lies between the reach k (its lower reach) and the reach k + 1 (its upper reach).");
        of.run(five, "sluice 3 0 = 200", "reach 3 1 = 200", "sluice 3 1 = 350", "reach 4 1 = 350",
                "sluice 2 0 = 150", "reach 2 1 = 150", "sluice 0 1 = 100", "reach 1 1 = 100", "reach 0 1 = 100");
        of.says("A water (a reach or a chamber) has an area (100 to 100000), a floor (0 to 5000, a height), an amount of"
                + " water (0 or more), and the barges that float in it.");
        of.run("addReach 100 0 0", "addChamber 100 10 0 100000 5000 0", "addChamber 100000 200 5000 100 0 0",
                "reach 0 4 = 100", "reach 0 5 = 0", "reach 0 1 = 0", "reach 1 4 = 100000", "reach 1 5 = 5000",
                "chamber 0 4 = 100", "chamber 0 5 = 0", "chamber 1 4 = 100000", "chamber 1 5 = 5000",
                "chamber 1 1 = 0", "addBarge 2 5 10 1 10", "reach 2 3 = 1", "reach 0 3 = 0", "chamber 1 3 = 0");
        of.says("Its level is floor + (water + floats) * 100 / area, where floats are the weights of all its barges"
                + " together.");
        of.run("addReach 300 40 100", "reach 0 0 = 73", "addBarge 0 5 10 1 10", "addBarge 0 5 33 1 10",
                "reach 0 2 = 43", "reach 0 0 = 87");
        of.run(OPEN, "enter 0 0", "close 0", "chamber 0 1 = 960", "chamber 0 2 = 100", "chamber 0 0 = 212");
    }

    private void chambers() {
        of.says("A chamber has a length (10 to 200), a sill at each of its two gates (0 to 5000; ");
        of.run("addReach 100 0 0", "addChamber 100 9 0 100 0 0 = BAD_VALUE", "addChamber 100 10 0 100 0 0",
                "addChamber 100 201 0 100 0 0 = BAD_VALUE", "addChamber 100 200 0 100 0 0", "chamber 0 6 = 10",
                "chamber 1 6 = 200", "setSill 0 0 0", "setSill 0 1 5000", "setSill 0 0 -1 = BAD_VALUE",
                "setSill 0 1 5001 = BAD_VALUE", "setSill 0 2 0 = UNKNOWN", "setSill 0 -1 0 = UNKNOWN",
                "chamber 0 9 = 0", "chamber 0 10 = 5000");
        of.says("the gate 0 leads to the lower reach, the gate 1 to the upper one)");
        of.run(OPEN, "enter 2 0", "leave 0 0 = 2", "barge 2 7 = 0", "enter 2 0", "close 0 = 0", "sluice 0 1",
                "open 0 1", "leave 0 1 = 2", "barge 2 7 = 1", "chamber 0 11 = 3", "chamber 0 12 = 1");
        of.says(", and mud on each sill (0 at first).");
        of.run(CANAL, "chamber 0 9 = 0", "chamber 0 10 = 0", "dredge 0 0 = NONE", "dredge 0 1 = NONE");
        of.says("Each gate is closed (at first) or open; at most one gate of a chamber is open.");
        of.run("addReach 1000 0 3000", "addChamber 500 40 0 1000 0 2000", "chamber 0 8 = NONE",
                "close 0 = REFUSED 2", "sluice 0 0 = 200", "open 0 1 = 200", "open 0 0 = REFUSED 1",
                "chamber 0 8 = 1", "count 3 = 1", "close 0 = 1", "open 0 0 = 200", "chamber 0 8 = 0", "count 3 = 1");
    }

    private void sharing() {
        of.saysOnly("Sharing.");
        of.says("Two waters, with areas a and b, floors f and g, and the sum t of both waters and floats, share their"
                + " water: with the height h = (t * 100 + a * f + b * g) / (a + b), the chamber of both gets the water"
                + " a * (h - f) / 100 less its own floats (a, f: those of the chamber),");
        // h = (405000 + 36000 + 21000) / 1000 = 462, and 300 * 342 / 100 = 1026
        of.run("addReach 700 30 4000", "addChamber 300 40 120 100 0 0", "addBarge 0 20 50 1 10", "sluice 0 0 = 462",
                "chamber 0 1 = 1026", "reach 0 1 = 2974");
        // h = 319000 / 1500 = 212, and 500 * 212 / 100 = 1060
        of.run(OPEN, "chamber 0 1 = 1060", "enter 0 0", "chamber 0 1 = 960", "reach 0 1 = 2040");
        of.says("but at least 0,");
        of.run("addReach 1000 0 3000", "addChamber 500 40 900 100 0 0", "flow 0 0 = 0", "sluice 0 0 = 900",
                "chamber 0 1 = 0", "reach 0 1 = 3000");
        // t = 245, h = 16, and 500 * 16 / 100 is less than the 100 t that float.
        of.run(OPEN, "enter 0 0", "supply 0 -2040 = 77", "supply 0 -680 = 31", "supply 0 -225 = 14",
                "chamber 0 1 = 0", "reach 0 1 = 55", "chamber 0 0 = 20");
        of.says("and at most all the water of both;");
        // h = (1000 + 500000) / 600 = 835
        of.run("addReach 1000 0 0", "addChamber 500 40 0 100 5000 10", "flow 0 1 = 10", "sluice 0 1 = 2",
                "chamber 0 1 = 10", "reach 1 1 = 0", "flow 0 1 = 0");
        of.says("the reach gets the rest.");
        of.run(CANAL, "supply 0 14", "sluice 0 0", "chamber 0 1 = 1000", "reach 0 1 = 2014", "account 0 = 6014");
    }

    private void gates() {
        of.saysOnly("Gates and sluices.");
        of.says("To fill or empty a chamber by the sluices of a gate, while both gates are closed, lets the chamber and"
                + " the reach behind this gate share their water.");
        of.run(CANAL, "sluice 0 1 = 333", "chamber 0 1 = 1665", "reach 1 1 = 1335", "reach 0 1 = 3000",
                "sluice 0 0 = 311", "chamber 0 1 = 1555", "reach 0 1 = 3110", "reach 1 1 = 1335");
        of.run(OPEN, "sluice 0 0 = REFUSED 1", "sluice 0 1 = REFUSED 1");
        of.says("A gate can be opened if both gates are closed, and the levels of the chamber and the reach differ by at"
                + " most 2.");
        of.run(CANAL, "sluice 0 0 = 200", "supply 0 29 = 202", "open 0 0 = 201");
        of.run(CANAL, "sluice 0 0 = 200", "supply 0 30 = 203", "open 0 0 = REFUSED 3", "chamber 0 8 = NONE");
        of.run(CANAL, "sluice 0 0 = 200", "supply 0 -20 = 198", "open 0 0 = 198");
        of.run(CANAL, "sluice 0 0 = 200", "supply 0 -21 = 197", "open 0 0 = REFUSED 3", "chamber 0 8 = NONE");
        of.run("addReach 1000 0 3000", "addChamber 500 40 0 1000 0 2000", "sluice 0 0 = 200", "open 0 0 = 200",
                "open 0 1 = REFUSED 1", "chamber 0 8 = 0");
    }

    private void sharingBehindActs() {
        String[] unsettled = Sentences.UNSETTLED;
        String[] shared = Sentences.SHARED;
        String[] notShared = Sentences.NOT_SHARED;
        of.says("While a gate is open, the chamber and this reach share their water behind each act that was successful"
                + " (but restore()), ahead of what it returns,");
        of.run(unsettled, notShared, "setClearance 10", shared);
        of.run(unsettled, notShared, "setClearance 51 = BAD_VALUE", "load 0 301 = REFUSED 8", "dredge 0 0 = NONE",
                "addReach 100 0 0 = FULL", "addBarge 3 5 10 1 10 = UNKNOWN", notShared);
        of.run(unsettled, "keep 0", "setClearance 10", "restore 0", notShared);
        of.run(unsettled, "keep 0", "type 32", "clearText", "setClearance 10", "undo", notShared);
        // Without sharing, it would answer 215.
        of.run(CANAL, "sluice 0 0", "open 0 0", "supply 0 150 = 210", "chamber 0 1 = 1050", "reach 0 1 = 2100");
        of.says("and, within runOrders(), also behind each order that is carried out:");
        // One sharing gives 26675, 53355 and 25440; as many more as orders follow.
        of.run(Sentences.DOUBLE, "supply 1 100000", "text close 3", "runOrders = 0", waters(26675, 50885, 25440));
        of.run(Sentences.DOUBLE, "supply 1 100000", "text load 0 1", "runOrders = 1", waters(25850, 51435, 25715));
        of.run(Sentences.DOUBLE, "supply 1 100000", "text load 0 1;load 0 1", "runOrders = 2",
                waters(25760, 51495, 25745));
        of.run(Sentences.DOUBLE, "supply 1 100000", "text load 0 1;load 0 1;close 3", "runOrders = 2",
                waters(25760, 51495, 25745));
        of.says("all chambers with open gates do so, once each, in ascending order.");
        // The chamber 1 ahead of the chamber 0 would give 1010, 2020 and 970.
        of.run(unsettled, "setClearance 10", shared);
        of.run(unsettled, "close 0", notShared);
        of.run(unsettled, "close 1", waters(1010, 2020, 970));
    }

    private static String[] waters(int lowerChamber, int reach, int upperChamber) {
        return Sentences.join("chamber 0 1 = " + lowerChamber, "reach 1 1 = " + reach,
                "chamber 1 1 = " + upperChamber);
    }

    private void barges() {
        of.saysOnly("Barges.");
        of.says("There are up to 12 barges, numbered from 0.");
        of.run(CANAL, "addBarge 0 5 10 1 10 = 0", Sentences.times(10, "addBarge 1 5 10 1 10"),
                "addBarge 0 5 11 1 10 = 11", "addBarge 0 5 10 1 10 = FULL", "count 2 = 12", "barge 11 1 = 11",
                "barge 12 1 = UNKNOWN");
        of.says("A barge has a length (5 to 60), an own weight (10 to 500), an immersion (1 to 20, in tons for a"
                + " centimeter), a hold (10 to 1000: the most that cargo and ballast can weigh together), cargo and"
                + " ballast, both 0 at first.");
        of.run(CANAL, "addBarge 0 5 10 1 10", "addBarge 0 60 500 20 1000", "barge 0 0 = 5", "barge 0 1 = 10",
                "barge 0 2 = 10", "barge 0 3 = 0", "barge 0 4 = 0", "barge 0 5 = 10", "barge 1 0 = 60",
                "barge 1 1 = 500", "barge 1 2 = 25", "barge 1 5 = 1000");
        of.run(CANAL, "addBarge 0 5 10 1 10", "load 0 4", "pump 0 7 = REFUSED 8", "pump 0 6 = 20", "barge 0 5 = 0",
                "load 0 1 = REFUSED 8");
        of.says("Its weight is all of these together.");
        of.run(CANAL, "addBarge 0 5 10 1 100", "load 0 4", "pump 0 7", "barge 0 1 = 21", "reach 0 2 = 21");
        // Twelve of the heaviest, half of them with as much cargo as can be, the others with ballast.
        of.run("addReach 1000 0 100000", Sentences.times(12, "addBarge 0 60 500 1 1000"), "load 0 1000 = 1500",
                "load 1 1000", "load 2 1000", "load 3 1000", "load 4 1000", "load 5 99", "pump 5 901 = 1500", "pump 6 1000",
                "pump 7 1000", "pump 8 1000", "pump 9 1000", "pump 10 1000", "pump 11 1000 = 1500", "barge 5 1 = 1500",
                "barge 5 3 = 99", "barge 5 4 = 901", "barge 5 5 = 0", "barge 11 2 = 1500", "reach 0 2 = 18000",
                "reach 0 1 = 93099", "reach 0 0 = 11109", "account 1 = 6901", "account 2 = 5099", "account 3 = 18000");
        of.says("Its draught is its weight / immersion, rounded up.");
        of.run(CANAL, "addBarge 0 5 98 7 100", "barge 0 2 = 14", "load 0 1 = 15", "load 0 6 = 15", "load 0 1 = 16");
        of.says("It floats in one reach or chamber.");
        of.run(OPEN, "barge 0 7 = 0", "reach 0 3 = 3", "chamber 0 3 = 0", "enter 0 0", "barge 0 7 = 100",
                "reach 0 3 = 2", "chamber 0 3 = 1", "leave 0 0", "barge 0 7 = 0", "reach 0 3 = 3", "chamber 0 3 = 0");
        of.says("It is aground if the level of this water less its floor (of the water) is less than the draught.");
        of.run("addReach 100 5000 0", "addBarge 0 5 100 1 10", "barge 0 2 = 100", "barge 0 6 = 0", "load 0 1 = 101",
                "barge 0 6 = 0");
        of.run("addReach 1000 5000 899", "addBarge 0 5 100 1 10", "barge 0 6 = 1", "supply 0 1", "barge 0 6 = 0");
    }

    private void ballast() {
        of.says("Cargo is loaded and unloaded in reaches only.");
        of.run(OPEN, "load 0 10", "enter 0 0", "load 0 1 = REFUSED 4", "load 0 -1 = REFUSED 4", "leave 0 0",
                "load 0 1", "load 0 -11", "barge 0 3 = 0");
        of.says("Ballast is water: it is taken from the water in which the barge floats, or goes back to it.");
        of.run(OPEN, "enter 0 0", "close 0", "chamber 0 1 = 960", "pump 0 60", "chamber 0 1 = 900",
                "chamber 0 0 = 212", "reach 0 1 = 2040", "pump 0 -50", "chamber 0 1 = 950", "pump 1 20",
                "reach 0 1 = 2020", "pump 1 -20", "reach 0 1 = 2040", "account 1 = 10");
    }

    private void stacks() {
        of.saysOnly("Chambers are stacks.");
        of.says("The barges in a chamber lie in a row from the gate 0 to the gate 1.");
        String[] both = Sentences.join("addReach 1000 0 3000", "addChamber 500 40 0 1000 0 2000",
                "addBarge 0 10 30 3 50", "addBarge 0 10 30 3 50", "addBarge 1 10 30 3 50", "addBarge 1 10 30 3 50");
        String[] row = Sentences.join(both, "sluice 0 0", "open 0 0", "enter 0 0", "enter 1 0", "close 0",
                "sluice 0 1", "open 0 1", "enter 2 0");
        of.run(row, "lying 0 0 = 1", "lying 0 1 = 0", "lying 0 2 = 2", "lying 0 3 = NONE");
        of.says("A barge that enters by a gate lies next to this gate then;");
        of.run(row, "enter 3 0", "lying 0 0 = 1", "lying 0 2 = 2", "lying 0 3 = 3", "close 0", "sluice 0 0",
                "open 0 0", "leave 0 0 = 1", "enter 1 0", "lying 0 0 = 1", "lying 0 1 = 0");
        of.says("only the barge next to a gate can leave by it.");
        of.run(row, "leave 0 1 = 2", "leave 0 1 = 0", "leave 0 1 = 1", "leave 0 1 = REFUSED 4");
        of.run(row, "close 0", "sluice 0 0", "open 0 0", "leave 0 0 = 1", "leave 0 0 = 0", "leave 0 0 = 2",
                "leave 0 0 = REFUSED 4");
        of.says("The lengths of all barges in a chamber are together at most its length.");
        of.run(CANAL, "addBarge 0 20 30 3 50", "addBarge 0 20 30 3 50", "addBarge 0 21 30 3 50", "sluice 0 0",
                "open 0 0", "enter 0 0 = 20", "enter 2 0 = REFUSED 6", "enter 1 0 = 0", "chamber 0 3 = 2");
    }

    private void sills() {
        of.says("A barge enters a chamber from a reach, or leaves it to a reach, by an open gate.");
        of.run(CANAL, "addBarge 0 10 30 3 50", "enter 0 0 = REFUSED 2", "leave 0 0 = REFUSED 2", "sluice 0 0",
                "open 0 0", "enter 0 0", "barge 0 7 = 100", "leave 0 1 = REFUSED 2", "leave 0 0", "barge 0 7 = 0");
        String[] muddy = Sentences.join(OPEN, "setSill 0 0 100", Sentences.times(4, "enter 0 0", "leave 0 0"));
        of.says("The height of a sill is its own one plus its mud.");
        of.run(muddy, "chamber 0 9 = 101", "setSill 0 0 152 = 100", "chamber 0 9 = 153", "enter 0 0 = REFUSED 7");
        of.says("Each entering or leaving by a gate is a passage; behind each 8 passages by a gate (8, 16, and so on),"
                + " the mud of its sill increases by 1.");
        of.run(OPEN, Sentences.times(3, "enter 0 0", "leave 0 0"), "enter 0 0", "chamber 0 11 = 7", "chamber 0 9 = 0",
                "leave 0 0", "chamber 0 11 = 8", "chamber 0 9 = 1", Sentences.times(3, "enter 0 0", "leave 0 0"),
                "enter 0 0", "chamber 0 9 = 1", "leave 0 0", "chamber 0 11 = 16", "chamber 0 9 = 2",
                Sentences.times(4, "enter 0 0", "leave 0 0"), "chamber 0 9 = 3", "chamber 0 10 = 0");
        of.run(OPEN, Sentences.times(3, "enter 0 0", "leave 0 0"), "enter 0 0", "close 0", "sluice 0 1", "open 0 1",
                "leave 0 1", "chamber 0 11 = 7", "chamber 0 12 = 1", "chamber 0 9 = 0", "chamber 0 10 = 0",
                Sentences.times(3, "enter 0 0", "leave 0 1"), "enter 0 0", "chamber 0 12 = 8", "chamber 0 10 = 1",
                "chamber 0 9 = 0");
        of.says("To dredge a sill makes its mud 0 (the passages go on being counted).");
        of.run(muddy, "enter 0 0", "dredge 0 0 = 1", "chamber 0 9 = 100", "chamber 0 11 = 9", "leave 0 0",
                Sentences.times(2, "enter 0 0", "leave 0 0"), "enter 0 0", "chamber 0 11 = 15", "chamber 0 9 = 100",
                "leave 0 0", "chamber 0 11 = 16", "chamber 0 9 = 101");
    }
}
