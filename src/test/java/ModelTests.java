import java.util.Arrays;
import java.util.Random;
import java.util.TreeSet;

/** Random runs of 512 calls, on a BargeLocks and on a PlainCanal; each answer is compared. */
public final class ModelTests {
    private static final int RUNS = 3000;
    private static final int CALLS = 512;
    /** Each method with how often it is called, and the answers that the runs have to meet. */
    private static final String[] METHODS = {
        "addReach 1 ok BAD_VALUE FULL", "addChamber 3 ok BAD_VALUE FULL", "setSill 6 ok UNKNOWN BAD_VALUE",
        "setClearance 4 ok BAD_VALUE", "dredge 4 ok UNKNOWN NONE", "supply 10 ok UNKNOWN BAD_VALUE 8",
        "addBarge 4 ok UNKNOWN BAD_VALUE FULL", "load 12 ok UNKNOWN BAD_VALUE 4 8",
        "pump 12 ok UNKNOWN BAD_VALUE 8", "sluice 24 ok UNKNOWN 1", "open 24 ok UNKNOWN 1 3",
        "close 14 ok UNKNOWN 2", "enter 40 ok UNKNOWN 2 4 5 6 7", "leave 40 ok UNKNOWN 2 4 5 7",
        "type 2 ok FULL", "clearText 1 ok", "runOrders 3 ok fault", "undo 8 ok NONE", "keep 3 ok UNKNOWN",
        "restore 3 ok UNKNOWN NONE", "reach 10 ok UNKNOWN BAD_VALUE", "chamber 16 ok UNKNOWN BAD_VALUE NONE",
        "lying 8 ok UNKNOWN BAD_VALUE NONE", "barge 14 ok UNKNOWN BAD_VALUE", "margin 8 ok UNKNOWN NONE",
        "flow 6 ok UNKNOWN", "account 8 ok BAD_VALUE", "count 10 ok BAD_VALUE",
    };
    private static final int[] ODD = {Integer.MIN_VALUE, Integer.MAX_VALUE, -1, 0, 1, 2, 5, 12, 13, 99, 100,
        104, 1000, -1000, 1001, -1001, 5000, 5001, 10000000, 100000001};

    private final Random random;
    /** Whether this run goes up to the greatest areas, floors and amounts of water. */
    private final boolean large;
    private final BargeLocks built = new BargeLocks();
    private final PlainCanal plain = new PlainCanal();
    private final StringBuilder log = new StringBuilder();
    private final TreeSet<String> met;
    private boolean wrong = false;
    private int calls = 0;

    private ModelTests(long seed, TreeSet<String> met) {
        random = new Random(seed);
        large = seed % 4 == 3;
        this.met = met;
    }

    public static void main(String[] args) {
        TreeSet<String> met = new TreeSet<>();
        int wrongRuns = 0;
        for (int run = 0; run < RUNS && wrongRuns < 3; run++) {
            ModelTests test = new ModelTests(run, met);
            test.run();
            if (test.wrong) {
                wrongRuns++;
                System.out.println("the run of the seed " + run + ":\n" + test.log);
            }
        }
        int missing = countMissing(met);
        System.out.println(RUNS + " runs, " + wrongRuns + " wrong");
        System.exit(wrongRuns == 0 && missing == 0 ? 0 : 1);
    }

    /** Runs that never meet an answer would not show that it is right. */
    private static int countMissing(TreeSet<String> met) {
        int missing = 0;
        for (String method : METHODS) {
            String[] parts = method.split(" ");
            for (int i = 2; i < parts.length; i++) {
                if (!met.contains(parts[0] + " " + parts[i])) {
                    missing++;
                    System.out.println("no run has met " + parts[0] + " " + parts[i]);
                }
            }
        }
        return missing;
    }

    private int in(int least, int most) {
        return least + random.nextInt(most - least + 1);
    }

    /** A number below this one; or 0 if there is none. */
    private int below(int number) {
        return in(0, Math.max(0, number - 1));
    }

    /** A number that count() tells; asked of the plain canal, as only 512 calls of a built one count. */
    private int number(int what) {
        return (int) plain.call("count", new int[] {what});
    }

    private void run() {
        call("undo");
        call("addReach", likely("addReach"));
        int chambers = in(1, 4);
        for (int i = 0; i < chambers; i++) {
            int rise = in(0, 2) == 0 ? 0 : 150 * i;
            call("addChamber", large ? likely("addChamber") : new int[] {in(100, 1500), in(10, 200),
                in(0, 100) + rise, in(100, 5000), in(0, 150) + rise, in(0, 30000)});
        }
        for (int i = in(1, 12); i > 0; i--) {
            call("addBarge", in(0, chambers), in(5, 40), in(10, 300), in(1, 20), in(10, 1000));
        }
        while (calls < CALLS && !wrong) {
            step();
        }
    }

    private void step() {
        int kind = in(0, 19);
        if (kind == 0) {
            lockThrough();
        } else if (kind == 1 && calls < CALLS - 62) {
            giveOrders();
        } else {
            String method = pick();
            call(method, arguments(method));
        }
    }

    private String pick() {
        int sum = 0;
        for (String method : METHODS) {
            sum += Integer.parseInt(method.split(" ")[1]);
        }
        int at = in(0, sum - 1);
        for (String method : METHODS) {
            at -= Integer.parseInt(method.split(" ")[1]);
            if (at < 0) {
                return method.split(" ")[0];
            }
        }
        throw new IllegalStateException();
    }

    /** Calls that bring barges into a chamber and out again. */
    private void lockThrough() {
        int chamber = below(number(1));
        int gate = in(0, 1);
        call("close", chamber);
        call("sluice", chamber, gate);
        call("open", chamber, gate);
        for (int i = in(1, 8); i > 0; i--) {
            call("enter", below(number(2)), chamber);
        }
        for (int i = in(0, 8); i > 0; i--) {
            call("leave", chamber, gate);
        }
        call("chamber", chamber, in(0, 12));
    }

    private void giveOrders() {
        call("clearText");
        StringBuilder text = new StringBuilder();
        for (int i = in(1, 7); i > 0; i--) {
            text.append(text.length() == 0 ? "" : ";").append(order());
        }
        if (in(0, 2) == 0) {
            int at = in(0, text.length() - 1);
            String change = String.valueOf(" ;0129ax\u0661".charAt(in(0, 8)));
            text.replace(at, at + in(0, 1), in(0, 2) == 0 ? "" : change);
        }
        for (int i = 0; i < text.length() && i < 61; i++) {
            call("type", text.charAt(i));
        }
        call("runOrders");
        call("count", 7);
    }

    private String order() {
        int chamber = below(number(1));
        int barge = Math.min(11, in(0, number(2)));
        switch (in(0, 6)) {
            case 0:
                return "sluice " + chamber + " " + in(0, 1);
            case 1:
                return "open " + chamber + " 0" + in(0, 1);
            case 2:
                return "close " + chamber;
            case 3:
                return "enter " + barge + " " + chamber;
            case 4:
                return "leave " + chamber + " " + in(0, 1);
            case 5:
                return "load " + barge + " " + in(1, 99);
            default:
                return "pump 0" + barge + " " + in(1, 99);
        }
    }

    private int[] arguments(String method) {
        int[] a = likely(method);
        if (a.length > 0 && in(0, 30) == 0) {
            a[in(0, a.length - 1)] = ODD[in(0, ODD.length - 1)];
        }
        return a;
    }

    private int[] likely(String method) {
        int chamber = below(number(1));
        int barge = below(number(2));
        int reach = below(number(0));
        switch (method) {
            case "addReach":
                return large ? new int[] {in(100, 100000), in(0, 5000), in(0, 10000000)}
                        : new int[] {in(100, 5000), in(0, 300), in(0, 20000)};
            case "addChamber":
                if (large) {
                    return new int[] {in(100, 100000), in(10, 200), in(0, 5000), in(100, 100000), in(0, 5000),
                        in(0, 10000000)};
                }
                return new int[] {in(100, 1500), in(10, 200), in(0, 400), in(100, 5000), in(0, 600), in(0, 30000)};
            case "setSill":
                return new int[] {chamber, in(0, 1), in(0, 3) == 0 ? in(0, 400) : in(0, 60)};
            case "setClearance":
                return new int[] {in(-1, 51)};
            case "supply":
                return new int[] {reach, large || in(0, 20) == 0 ? in(-1000001, 1000001) : in(-500, 1500)};
            case "addBarge":
                return new int[] {reach, in(5, 60), in(10, 500), in(1, 20), in(10, 1000)};
            case "load":
            case "pump":
                return new int[] {barge, in(-100, 200)};
            case "close":
                return new int[] {chamber};
            case "enter":
                return new int[] {barge, chamber};
            case "type":
                return new int[] {in(32, 122)};
            case "clearText":
            case "runOrders":
            case "undo":
                return new int[0];
            case "keep":
            case "restore":
                return new int[] {in(0, 1)};
            case "reach":
                return new int[] {reach, in(0, 6)};
            case "chamber":
                return new int[] {chamber, in(0, 13)};
            case "lying":
                return new int[] {chamber, in(-1, 4)};
            case "barge":
                return new int[] {barge, in(0, 9)};
            case "margin":
                return new int[] {barge, chamber, in(0, 1)};
            case "account":
                return new int[] {in(0, 7)};
            case "count":
                return new int[] {in(0, 10)};
            default:
                return new int[] {chamber, in(0, 1)};
        }
    }

    private void call(String method, int... a) {
        if (calls >= CALLS || wrong) {
            return;
        }
        calls++;
        long got = answer(method, a);
        long want = plain.call(method, a);
        met.add(method + " " + kind(method, want));
        log.append(method).append(Arrays.toString(a)).append(' ').append(got).append('\n');
        if (got != want) {
            wrong = true;
            log.append("due is ").append(want).append('\n');
        }
    }

    private String kind(String method, long answer) {
        if (answer == BargeLocks.REFUSED) {
            return String.valueOf(plain.reason());
        }
        if (answer >= BargeLocks.NONE && answer <= BargeLocks.UNKNOWN) {
            return new String[] {"UNKNOWN", "BAD_VALUE", "REFUSED", "FULL", "NONE"}[(int) (BargeLocks.UNKNOWN - answer)];
        }
        return answer < 0 && method.equals("runOrders") ? "fault" : "ok";
    }

    private long answer(String method, int[] a) {
        switch (method) {
            case "addReach":
                return built.addReach(a[0], a[1], a[2]);
            case "addChamber":
                return built.addChamber(a[0], a[1], a[2], a[3], a[4], a[5]);
            case "setSill":
                return built.setSill(a[0], a[1], a[2]);
            case "setClearance":
                return built.setClearance(a[0]);
            case "dredge":
                return built.dredge(a[0], a[1]);
            case "supply":
                return built.supply(a[0], a[1]);
            case "addBarge":
                return built.addBarge(a[0], a[1], a[2], a[3], a[4]);
            case "load":
                return built.load(a[0], a[1]);
            case "pump":
                return built.pump(a[0], a[1]);
            case "sluice":
                return built.sluice(a[0], a[1]);
            case "open":
                return built.open(a[0], a[1]);
            case "close":
                return built.close(a[0]);
            case "enter":
                return built.enter(a[0], a[1]);
            case "leave":
                return built.leave(a[0], a[1]);
            default:
                return laterAnswer(method, a);
        }
    }

    private long laterAnswer(String method, int[] a) {
        switch (method) {
            case "type":
                return built.type((char) a[0]);
            case "clearText":
                return built.clearText();
            case "runOrders":
                return built.runOrders();
            case "undo":
                return built.undo();
            case "keep":
                return built.keep(a[0]);
            case "restore":
                return built.restore(a[0]);
            case "reach":
                return built.reach(a[0], a[1]);
            case "chamber":
                return built.chamber(a[0], a[1]);
            case "lying":
                return built.lying(a[0], a[1]);
            case "barge":
                return built.barge(a[0], a[1]);
            case "margin":
                return built.margin(a[0], a[1], a[2]);
            case "flow":
                return built.flow(a[0], a[1]);
            case "account":
                return built.account(a[0]);
            case "count":
                return built.count(a[0]);
            default:
                throw new IllegalArgumentException(method);
        }
    }
}
