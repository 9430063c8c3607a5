/** Sentences of promises 19 to 21: history. */
final class HistorySentences {
    private static final String[] CANAL = Sentences.CANAL;
    private static final String[] OPEN = Sentences.OPEN;
    private static final String[] FIVE = {"setClearance 1", "setClearance 2", "setClearance 3", "setClearance 4",
        "setClearance 5"};
    private final Sentences of;

    HistorySentences(Sentences sentences) {
        of = sentences;
    }

    void test() {
        undo();
        keep();
        restore();
        restoreAnswers();
    }

    private void undo() {
        of.section("Promise 19: undo");
        of.says("Restores the latest state of the history.");
        String[] acts = {"addChamber 100 10 0 100 0 10", "setSill 0 1 5", "setClearance 3", "dredge 0 0", "supply 0 77",
            "addBarge 1 10 10 1 10", "load 1 10", "pump 0 10", "close 0", "enter 2 0", "leave 0 0"};
        String[] ready = Sentences.join(OPEN, Sentences.times(4, "enter 0 0", "leave 0 0"), "enter 0 0");
        for (String act : acts) {
            of.run(ready, "mark", act, "undo = 4", "same", "setClearance 50", act, "undo", "undo", "same");
        }
        of.run(FIVE, "undo", "count 6 = 4", "undo", "count 6 = 3", "undo", "count 6 = 2", "undo", "count 6 = 1", "undo",
                "count 6 = 10");
        of.run(Sentences.UNSETTLED, "setClearance 20", "undo", Sentences.NOT_SHARED, "count 6 = 10");
        // An undo() is no act: the next one does not bring back what it took.
        of.run(CANAL, "setClearance 20", "setClearance 30", "undo", "count 6 = 20", "undo", "count 6 = 10", "count 8 = 2");
        of.says("Returns the number of states that are left;");
        of.run(FIVE, "undo = 4", "undo = 3", "undo = 2", "undo = 1", "undo = 0");
        of.run("setClearance 1", "undo = 0", "setClearance 1", "setClearance 1", "undo = 1", "undo = 0");
        of.says("NONE if the history is empty.");
        of.run("undo = NONE", "setClearance 1", "undo = 0", "undo = NONE", "undo = NONE", "count 6 = 10", "setClearance 2",
                "undo = 0");
        of.run(FIVE, "setClearance 6", Sentences.times(5, "undo"), "undo = NONE", "count 6 = 1");
    }

    private void keep() {
        of.section("Promise 20: keep");
        of.says("Takes a snapshot of the state into a slot,");
        of.run(OPEN, "enter 0 0", "load 1 9", "mark", "keep 0", "leave 0 0", "load 1 7", "close 0", "addBarge 1 5 10 1 10",
                "restore 0", "same", "restore 1 = NONE");
        of.run(OPEN, "count 8 = 5", "undo = 4", "keep 0", "count 8 = 4", "keep 1", "count 8 = 4", "undo = 3");
        of.run(Sentences.UNSETTLED, "keep 0", Sentences.NOT_SHARED, "keep 1", Sentences.NOT_SHARED);
        of.says("in place of what is there.");
        of.run("setClearance 1", "keep 0", "setClearance 2", "keep 0", "setClearance 3", "restore 0", "count 6 = 2", "keep 1",
                "setClearance 4", "keep 1", "setClearance 5", "restore 1", "count 6 = 4", "restore 0", "count 6 = 2");
        of.run(CANAL, "keep 0", "addBarge 1 10 20 2 30", "keep 0", "undo", "undo", "undo", "restore 0 = 1", "count 1 = 1");
        of.run(OPEN, "keep 0", "load 0 5", "enter 1 0", "mark", "keep 0", "leave 0 0", "undo", "undo", "undo", "restore 0", "same");
        of.says("- `slot`: 0 or 1");
        of.known(CANAL, "keep ?", 2);
        of.run(CANAL, "keep 0", "keep 1");
        of.says("Returns the number of barges;");
        of.run("keep 0 = 0");
        of.run(OPEN, "keep 0 = 3", "addBarge 1 5 10 1 10", "keep 1 = 4", "undo", "keep 1 = 3");
        of.says("UNKNOWN.");
        of.run(OPEN, "keep 2 = UNKNOWN", "keep -1 = UNKNOWN", "restore 0 = NONE", "restore 1 = NONE");
    }

    private void restore() {
        of.section("Promise 21: restore");
        of.says("Restores the state of a slot,");
        String[] much = Sentences.join(OPEN, "setSill 0 0 7", "setSill 0 1 8", "load 0 60", "pump 1 30", "supply 0 500",
                "setClearance 17", Sentences.times(4, "enter 0 0", "leave 0 0"), "enter 1 0");
        of.run(much, "mark", "keep 1", "leave 0 0", "dredge 0 0", "close 0", "sluice 0 1", "load 0 -60", "restore 1", "same");
        // Another canal is built behind undo(); the slot brings back all of the first one.
        of.run("addReach 1000 10 3000", "addChamber 500 40 20 1000 30 4000", "addBarge 0 20 100 2 300", "mark", "keep 0",
                "undo", "undo", "undo", "addReach 2000 11 3001", "addChamber 600 50 21 2000 31 4001",
                "addChamber 600 50 21 2000 31 4001", "addBarge 0 21 110 3 310", "addBarge 2 21 110 3 310", "restore 0", "same");
        of.run(OPEN, "enter 0 0", "keep 0", "undo", "undo", "undo", "undo", "undo", "chamber 0 1 = 0", "restore 0", "lying 0 0 = 0",
                "leave 0 0 = 0");
        // All barges lie in one chamber, in an order that is another one when the slot and undo() bring it back.
        String[] row = Sentences.join("addReach 10000 0 30000", "addChamber 500 200 0 10000 0 0",
                Sentences.times(12, "addBarge 0 16 10 2 10"), "sluice 0 0", "open 0 0", enterAll("11 10 9 8 7 6 5 4 3 2 1 0"));
        of.run(row, "lying 0 0 = 0", "lying 0 11 = 11", "keep 1", Sentences.times(12, "leave 0 0"),
                enterAll("0 1 2 3 4 5 6 7 8 9 10 11"), "lying 0 0 = 11", "lying 0 1 = 10", "lying 0 11 = 0",
                "restore 1 = 12", "lying 0 0 = 0", "lying 0 1 = 1", "lying 0 10 = 10", "lying 0 11 = 11", "undo = 4",
                "lying 0 0 = 11", "lying 0 1 = 10", "lying 0 11 = 0", "restore 1 = 12", "lying 0 11 = 11");
        of.says("where it stays.");
        of.run(CANAL, "keep 0", "mark", "supply 0 7", "restore 0", "same", "supply 0 9", "sluice 0 0", "restore 0", "same",
                "undo", "undo", "undo", "restore 0", "same");
        of.says("This is an act.");
        of.records(Sentences.join(OPEN, "keep 0", "close 0", "load 1 7"), "restore 0");
        of.run(Sentences.UNSETTLED, "keep 0", "setClearance 10", Sentences.SHARED, "restore 0", Sentences.NOT_SHARED);
        of.says("- `slot`: 0 or 1");
        of.known(Sentences.join(CANAL, "keep 0", "keep 1"), "restore ?", 2);
        of.run(CANAL, "keep 0", "setClearance 20", "keep 1", "restore 0", "count 6 = 10", "restore 1", "count 6 = 20");
    }

    private static String[] enterAll(String barges) {
        String[] calls = barges.split(" ");
        for (int i = 0; i < calls.length; i++) {
            calls[i] = "enter " + calls[i] + " 0";
        }
        return calls;
    }

    private void restoreAnswers() {
        of.says("Returns the number of barges then;");
        of.run("keep 0", CANAL, "addBarge 0 5 10 1 10", "keep 1", "restore 0 = 0", "restore 1 = 1", "restore 0 = 0");
        of.says("UNKNOWN;");
        of.run(CANAL, "restore 2 = UNKNOWN", "restore -1 = UNKNOWN", "keep 0", "keep 1", "restore 2 = UNKNOWN",
                "restore -1 = UNKNOWN");
        of.says("NONE if the slot is empty.");
        of.run(CANAL, "restore 0 = NONE", "restore 1 = NONE", "keep 0", "restore 1 = NONE", "restore 0 = 0", "count 8 = 3");
        of.run(Sentences.UNSETTLED, "keep 1", "restore 0 = NONE", Sentences.NOT_SHARED);
    }
}
