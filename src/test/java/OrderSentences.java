/** Sentences of promises 16 to 18: orders. */
final class OrderSentences {
    private static final String[] CANAL = Sentences.CANAL;
    private static final String[] OPEN = Sentences.OPEN;
    private static final String[] BARGE = Sentences.join(CANAL, "addBarge 0 20 100 2 300");
    private final Sentences of;

    OrderSentences(Sentences sentences) {
        of = sentences;
    }

    void test() {
        type();
        clearText();
        runOrders();
        runsUpToAnError();
        runIsOneAct();
        runAnswers();
    }

    private void type() {
        of.section("Promise 16: type");
        of.says("Appends a character to the text.");
        of.run(OPEN, "type 99", "type 108", "type 111", "type 115", "type 101", "type 32", "type 48", "runOrders = 1");
        of.run(OPEN, "text close ", "type 48", "runOrders = 1", "type 59", "runOrders = -108");
        of.run(CANAL, "count 8 = 2", "type 32", "count 8 = 2", "undo = 1", "count 9 = 1");
        of.says("- `character`: any character");
        of.run("type 0 = 1", "type 32 = 2", "type 127 = 3", "type 128 = 4", "type 255 = 5", "type 256 = 6", "type 32767 = 7",
                "type 32768 = 8", "type 65535 = 9", "type 55357 = 10", "runOrders = -100");
        // The characters with 256 more, and with 256 less, are other ones.
        of.run(OPEN, "text close 0", "clearText", "type 355", "runOrders = -100", "text close", "type 288", "type 48",
                "runOrders = -100", "text close ", "type 304", "runOrders = -106", "text close 0", "type 315",
                "runOrders = -106");
        of.says("Returns the length of the text then;");
        of.run("type 32 = 1", "type 32 = 2", Sentences.times(57, "type 59"), "type 32 = 60");
        of.says("FULL if it has 60 characters.");
        of.run(Sentences.times(59, "type 32"), "type 32 = 60", "type 32 = FULL", "type 65535 = FULL", "count 9 = 60",
                "clearText = 60", "type 32 = 1");
        of.run("text load 11 999;pump 11 999;enter 11 3;leave 3 1;sluice 3 0;open", "type 32 = FULL", "runOrders = -160");
    }

    private void clearText() {
        of.section("Promise 17: clearText");
        of.says("Empties the text.");
        of.run(OPEN, "text close 0", "clearText", "count 9 = 0", "runOrders = -100", "text enter 2 0", "clearText",
                "text close 0", "runOrders = 1", "chamber 0 3 = 0");
        of.run(CANAL, "text close 0", "clearText", "count 8 = 2", "undo = 1", "count 9 = 0");
        of.says("Returns the length that it had.");
        of.run("clearText = 0", "type 32", "clearText = 1", "clearText = 0", Sentences.times(60, "type 32"),
                "clearText = 60", "clearText = 0");
    }

    private void runOrders() {
        of.section("Promise 18: runOrders");
        of.says("Carries out the orders of the text,");
        of.run(BARGE, "text load 0 60;pump 00 020;sluice 0 0;open 000 0;enter 0 0", "runOrders = 5", "barge 0 3 = 60",
                "barge 0 4 = 20", "barge 0 7 = 100", "chamber 0 8 = 0");
        of.run(OPEN, "enter 0 0", "text close 0;sluice 0 1;open 0 1;leave 0 1", "runOrders = 4", "barge 0 7 = 1",
                "chamber 0 8 = 1");
        of.run("text close 0;close 0;close 0;close 0;close 0;close 0;close 0", "runOrders = 0");
        // There is no room for more orders than these seven.
        of.run(Sentences.DOUBLE, "text load 0 1;load 0 1;load 0 1;load 0 1;load 0 1;close 0;close 1", "count 9 = 60",
                "runOrders = 7", "barge 0 3 = 5", "count 3 = 0", "runOrders = 5", "barge 0 3 = 10", "count 7 = 2");
        of.says("which stays,");
        of.run(BARGE, "text load 0 7", "runOrders = 1", "count 9 = 8", "runOrders = 1", "barge 0 3 = 14", "clearText = 8");
        of.run(BARGE, "text close 0", "runOrders = 0", "count 9 = 7", "text close 9", "runOrders = -106", "count 9 = 7");
        of.says("one by one,");
        of.run(BARGE, "text load 0 300;load 0 1", "runOrders = 1", "barge 0 3 = 300");
        of.run(BARGE, "text sluice 0 0;open 0 0", "runOrders = 2");
        of.run(BARGE, "text open 0 0;sluice 0 0", "runOrders = 0", "chamber 0 1 = 0");
    }

    private void runsUpToAnError() {
        of.says("up to the first one whose method would return an error");
        of.run(BARGE, "text load 0 5;close 0;load 0 7", "runOrders = 1", "barge 0 3 = 5", "count 7 = 2");
        of.run(BARGE, "text load 0 5;load 1 5;load 0 7", "runOrders = 1", "barge 0 3 = 5", "count 7 = 0");
        of.run(BARGE, "text sluice 1 0;load 0 7", "runOrders = 0", "barge 0 3 = 0");
        of.run("text close 3", "runOrders = 0", "count 7 = 0", "text load 0 1", "runOrders = 0", "count 7 = 0");
        String[] errors = {"sluice 1 0", "open 1 0", "close 1", "enter 0 1", "enter 1 0", "leave 1 0", "load 1 1", "pump 1 1"};
        for (String error : errors) {
            of.run(BARGE, "text load 0 7;" + error + ";load 0 7", "runOrders = 1", "barge 0 3 = 7", "count 7 = 0");
        }
        of.says("(if it is refused, the reason is set).");
        of.run(OPEN, "enter 0 0", "setSill 0 0 5000", "text sluice 0 0", "runOrders = 0", "count 7 = 1", "text leave 0 1",
                "runOrders = 0", "count 7 = 2", "text load 0 1", "runOrders = 0", "count 7 = 4", "text leave 0 0",
                "runOrders = 0", "count 7 = 7", "text pump 0 301", "runOrders = 0", "count 7 = 8");
        of.run(BARGE, "text open 0 0", "runOrders = 0", "count 7 = 3", "text load 9 1", "runOrders = 0", "count 7 = 3");
    }

    private void runIsOneAct() {
        of.says("This is one act,");
        of.run(BARGE, "text load 0 5;pump 0 6;sluice 0 0", "count 8 = 3", "mark", "runOrders = 3", "count 8 = 4", "undo = 3",
                "same", "load 0 5", "count 8 = 4");
        of.records(Sentences.join(BARGE, "text load 0 5;pump 0 6;sluice 0 0"), "runOrders");
        of.run(Sentences.UNSETTLED, "text load 0 1", "runOrders = 1", "chamber 0 1 = 1000", "reach 1 1 = 2000",
                "chamber 1 1 = 1000");
        of.says("also if none is carried out.");
        of.run(BARGE, "text close 0", "count 8 = 3", "mark", "runOrders = 0", "count 8 = 4", "same", "undo = 3", "same");
        of.records(Sentences.join(BARGE, "text close 3"), "runOrders");
        of.shares("text close 3", "runOrders = 0");
    }

    private void runAnswers() {
        of.says("Returns the number of orders that were carried out;");
        of.run(BARGE, "text close 0", "runOrders = 0", "text load 0 1", "runOrders = 1", "text load 0 1;load 0 2;close 0",
                "runOrders = 2", "text load 0 1;load 0 1;load 0 1;load 0 1;load 0 1;load 0 1", "runOrders = 6",
                "barge 0 3 = 10");
        of.says("-100 minus the fault of the text if it has one (which is an error).");
        of.run(BARGE, "runOrders = -100", "text load 0 1;load 0 2;close 4", "mark", "runOrders = -124", "same", "count 8 = 3",
                "text load 0 1;load 0 2;close 3", "runOrders = 2");
        of.run(Sentences.UNSETTLED, "text load 0 1;", "runOrders = -109", Sentences.NOT_SHARED);
        of.run(OPEN, "open 0 0 = REFUSED 1", "text enter 0 0;close", "runOrders = -115", "count 7 = 1", "barge 0 7 = 0");
    }
}
