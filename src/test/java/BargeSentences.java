/** Sentences of promises 8 to 10: barges. */
final class BargeSentences {
    private static final String[] NEW = {};
    private static final String[] CANAL = Sentences.CANAL;
    private static final String[] OPEN = Sentences.OPEN;
    /** A barge that can take 1000 t, on much water. */
    private static final String[] BIG = {"addReach 1000 0 100000", "addBarge 0 20 100 7 1000"};
    private static final String[] TWELVE = Sentences.join(CANAL, Sentences.times(12, "addBarge 0 5 10 1 10"));
    private final Sentences of;

    BargeSentences(Sentences sentences) {
        of = sentences;
    }

    void test() {
        addBarge();
        addBargeAnswers();
        load();
        loadRefusals();
        pump();
        pumpRefusals();
    }

    private void addBarge() {
        of.section("Promise 8: addBarge");
        of.says("Adds a barge, empty, to a reach.");
        of.run(CANAL, "addBarge 1 20 101 2 300", "count 2 = 1", "barge 0 0 = 20", "barge 0 1 = 101", "barge 0 2 = 51",
                "barge 0 3 = 0", "barge 0 4 = 0", "barge 0 5 = 300", "barge 0 6 = 0", "barge 0 7 = 1", "barge 0 8 = 0",
                "reach 1 2 = 101", "reach 1 3 = 1", "reach 1 1 = 3000", "reach 1 0 = 510", "reach 0 3 = 0");
        of.says("This is an act.");
        of.records(CANAL, "addBarge 1 20 101 2 300");
        of.shares("addBarge 2 20 101 2 300 = 1");
        // 300 t more float in 2250 m3 of the lower chamber and the reach: h = 170, then 163.
        of.run(Sentences.DOUBLE, "addBarge 1 10 300 5 300", "chamber 0 1 = 850", "reach 1 1 = 1335", "chamber 1 1 = 815");
        of.says("- `reach`: a reach");
        of.known(CANAL, "addBarge ? 20 100 2 300", 2);
        of.unknown(NEW, "addBarge ? 20 100 2 300", 0);
        of.says("- `length`: 5 to 60");
        of.range(CANAL, "addBarge 0 ? 100 2 300", 5, 60);
        of.says("- `weight`: 10 to 500");
        of.range(CANAL, "addBarge 0 20 ? 2 300", 10, 500);
        of.says("- `immersion`: 1 to 20");
        of.range(CANAL, "addBarge 0 20 100 ? 300", 1, 20);
        of.says("- `hold`: 10 to 1000");
        of.range(CANAL, "addBarge 0 20 100 2 ?", 10, 1000);
    }

    private void addBargeAnswers() {
        of.says("Returns its number;");
        of.run(CANAL, "addBarge 0 20 100 2 300 = 0", "addBarge 1 20 100 2 300 = 1", "undo", "addBarge 0 20 100 2 300 = 1");
        of.says("UNKNOWN;");
        String[] bad = {"4 10 1 10", "5 9 1 10", "5 10 0 10", "5 10 1 9"};
        for (String values : bad) {
            of.run(CANAL, "addBarge 2 " + values + " = UNKNOWN");
            of.run(TWELVE, "addBarge -1 " + values + " = UNKNOWN");
        }
        of.run(TWELVE, "addBarge 2 5 10 1 10 = UNKNOWN");
        of.says("BAD_VALUE;");
        for (String values : bad) {
            of.run(TWELVE, "addBarge 0 " + values + " = BAD_VALUE");
        }
        of.says("FULL if there are 12.");
        of.run(TWELVE, "count 2 = 12", "addBarge 0 5 10 1 10 = FULL", "addBarge 1 5 10 1 10 = FULL", "count 2 = 12",
                "reach 0 2 = 120", "undo", "addBarge 1 60 500 20 1000 = 11", "addBarge 0 5 10 1 10 = FULL");
    }

    private void load() {
        of.section("Promise 9: load");
        of.says("Loads or unloads cargo.");
        of.run(BIG, "load 0 60", "barge 0 3 = 60", "barge 0 4 = 0", "barge 0 1 = 160", "barge 0 5 = 940", "reach 0 2 = 160",
                "reach 0 1 = 100000", "account 2 = 60", "load 0 -20", "barge 0 3 = 40", "reach 0 2 = 140", "account 2 = 40");
        of.says("This is an act.");
        of.records(BIG, "load 0 60");
        of.shares("load 0 1 = 21");
        of.says("- `barge`: a barge");
        of.known(CANAL, "load ? 1", 0);
        of.known(OPEN, "load ? 1", 3);
        of.known(TWELVE, "load ? 1", 12);
        of.says("- `tons`: -1000 to 1000, not 0");
        of.run(BIG, "load 0 1000", "load 0 -1000", "load 0 1", "load 0 -1");
        of.outOfRange(BIG, "load 0 ?", -1000, 1000);
        of.run(BIG, "load 0 0 = BAD_VALUE");
        of.says("Returns its draught then;");
        of.run(BIG, "load 0 5 = 15", "load 0 1 = 16", "load 0 -6 = 15", "load 0 1000 = 158");
        of.says("UNKNOWN;");
        of.run(BIG, "load 1 0 = UNKNOWN", "load -1 1001 = UNKNOWN", "load 1 -1001 = UNKNOWN");
        of.says("BAD_VALUE;");
        of.run(BIG, "load 0 1 = 15", "load 0 0 = BAD_VALUE", "load 0 1001 = BAD_VALUE", "load 0 -1001 = BAD_VALUE",
                "count 7 = 0", "barge 0 3 = 1");
        of.run(OPEN, "enter 0 0", "load 0 0 = BAD_VALUE", "load 0 1001 = BAD_VALUE");
    }

    private void loadRefusals() {
        of.says("REFUSED for the reasons 4 (it is in a chamber)");
        of.run(OPEN, "load 0 10", "enter 0 0", "load 0 1 = REFUSED 4", "load 0 -1 = REFUSED 4", "load 0 300 = REFUSED 4",
                "load 0 -11 = REFUSED 4", "barge 0 3 = 10", "leave 0 0", "load 0 1");
        of.says("and 8.");
        of.run(CANAL, "addBarge 0 20 100 2 300", "load 0 301 = REFUSED 8", "load 0 300", "load 0 1 = REFUSED 8",
                "load 0 -301 = REFUSED 8", "load 0 -300", "load 0 -1 = REFUSED 8");
        of.run(CANAL, "addBarge 0 20 100 2 300", "pump 0 100", "load 0 201 = REFUSED 8", "load 0 -1 = REFUSED 8",
                "load 0 200", "load 0 -201 = REFUSED 8", "load 0 -200 = 100", "barge 0 4 = 100");
        // No other reason refuses it: the barge is aground, and by far too deep for any gate.
        of.run("addReach 10000 0 0", "addBarge 0 60 500 1 300", "barge 0 6 = 1", "load 0 300 = 800", "load 0 -300 = 500");
    }

    private void pump() {
        of.section("Promise 10: pump");
        of.says("Pumps ballast in or out.");
        of.run(BIG, "pump 0 60", "barge 0 4 = 60", "barge 0 3 = 0", "barge 0 1 = 160", "barge 0 5 = 940", "reach 0 2 = 160",
                "reach 0 1 = 99940", "account 1 = 60", "account 0 = 99940", "pump 0 -20", "barge 0 4 = 40",
                "reach 0 2 = 140", "reach 0 1 = 99960");
        of.run(OPEN, "enter 0 0", "close 0", "pump 0 60", "chamber 0 1 = 900", "chamber 0 2 = 160", "reach 0 1 = 2040");
        of.says("This is an act.");
        of.records(BIG, "pump 0 60");
        of.shares("pump 0 1 = 21");
        of.says("- `barge`: a barge");
        of.known(CANAL, "pump ? 1", 0);
        of.known(OPEN, "pump ? 1", 3);
        of.known(TWELVE, "pump ? 1", 12);
        of.says("- `tons`: -1000 to 1000, not 0");
        of.run(BIG, "pump 0 1000", "pump 0 -1000", "pump 0 1", "pump 0 -1");
        of.outOfRange(BIG, "pump 0 ?", -1000, 1000);
        of.run(BIG, "pump 0 0 = BAD_VALUE");
        of.says("Returns its draught then;");
        of.run(BIG, "pump 0 5 = 15", "pump 0 1 = 16", "pump 0 -6 = 15", "pump 0 1000 = 158");
        of.says("UNKNOWN;");
        of.run(BIG, "pump 1 0 = UNKNOWN", "pump -1 1001 = UNKNOWN", "pump 1 -1001 = UNKNOWN");
        of.says("BAD_VALUE;");
        of.run(BIG, "pump 0 1 = 15", "pump 0 0 = BAD_VALUE", "pump 0 1001 = BAD_VALUE", "pump 0 -1001 = BAD_VALUE",
                "count 7 = 0", "barge 0 4 = 1");
    }

    private void pumpRefusals() {
        of.says("REFUSED for the reason 8 (for want of hold,");
        of.run(CANAL, "addBarge 0 20 100 2 300", "pump 0 301 = REFUSED 8", "pump 0 300", "pump 0 1 = REFUSED 8", "undo",
                "load 0 100", "pump 0 201 = REFUSED 8", "pump 0 200", "barge 0 5 = 0");
        of.says("of ballast,");
        of.run(CANAL, "addBarge 0 20 100 2 300", "pump 0 -1 = REFUSED 8", "load 0 50", "pump 0 -1 = REFUSED 8", "pump 0 30",
                "pump 0 -31 = REFUSED 8", "pump 0 -30 = 75", "barge 0 3 = 50");
        of.says("or of water).");
        of.run("addReach 1000 0 150", "addBarge 0 20 100 2 1000", "pump 0 151 = REFUSED 8", "pump 0 150", "reach 0 1 = 0",
                "pump 0 1 = REFUSED 8", "pump 0 -1", "pump 0 1");
        // No other reason refuses it: the barge is aground, and in a chamber.
        of.run("addReach 10000 0 10", "addBarge 0 60 500 1 300", "barge 0 6 = 1", "pump 0 10 = 510", "pump 0 -10 = 500");
        of.run(OPEN, "enter 0 0", "pump 0 1 = 51", "pump 0 -1 = 50");
        // The chamber's own water counts: 1060 less what has been pumped, not the reach's 1940.
        of.run(CANAL, "addBarge 0 20 100 20 1000", "addBarge 0 20 100 20 1000", "sluice 0 0", "open 0 0", "enter 0 0", "enter 1 0",
                "close 0", "chamber 0 1 = 865", "pump 0 866 = REFUSED 8", "pump 1 800", "pump 0 66 = REFUSED 8", "pump 0 65",
                "chamber 0 1 = 0", "pump 0 1 = REFUSED 8", "reach 0 1 = 2135");
    }
}
