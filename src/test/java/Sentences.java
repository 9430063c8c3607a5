import java.io.IOException;
import java.nio.charset.StandardCharsets;
import java.nio.file.Files;
import java.nio.file.Path;
import java.util.ArrayList;
import java.util.Arrays;
import java.util.LinkedHashMap;
import java.util.List;
import java.util.Map;

/**
 * Tests that quote the document. Each quotation is the name of the runs behind it; words of the
 * terms and the promises that no test quotes are a fault, and so is a quotation without a run.
 */
final class Sentences {
    /** Runs begin with these calls: a canal of the levels 300, 0 and 500. */
    static final String[] CANAL = {"addReach 1000 0 3000", "addChamber 500 40 0 1000 200 3000"};
    /** The canal with the barges 0, 1, 2 in the reach 0, and the gate 0 open at the level 212. */
    static final String[] OPEN = join(CANAL, "addBarge 0 20 100 2 300", "addBarge 0 15 60 1 100",
            "addBarge 0 10 30 3 50", "sluice 0 0", "open 0 0 = 212");
    /** Two chambers with gates open to the reach 1, all at the level 150; a barge in the reach 0. */
    static final String[] DOUBLE = {"addReach 1000 0 3000", "addChamber 500 40 0 1000 0 3000",
        "addChamber 500 40 0 1000 0 3000", "addBarge 0 10 100 5 300", "sluice 0 1", "open 0 1",
        "sluice 1 0", "sluice 1 0", "sluice 1 0", "open 1 0 = 150"};
    /** The double canal with more water, for which sharing once was not enough. */
    static final String[] UNSETTLED = join(DOUBLE, "supply 1 1000 = 195");
    /** The waters of the unsettled canal as they are, and behind sharing once more. */
    static final String[] NOT_SHARED = {"chamber 0 1 = 1080", "reach 1 1 = 1950", "chamber 1 1 = 970"};
    static final String[] SHARED = {"chamber 0 1 = 1010", "reach 1 1 = 1995", "chamber 1 1 = 995"};

    private static final String[] EXTREMES = {"MIN", "MAX"};

    private final Map<String, String> sections = new LinkedHashMap<>();
    private final Map<String, boolean[]> quoted = new LinkedHashMap<>();
    private String section = "";
    private String words = "";
    private int runsOfQuotation = 1;
    private int quotations = 0;
    private int runs = 0;
    private int wrong = 0;

    Sentences(Path document) throws IOException {
        String text = Files.readString(document, StandardCharsets.UTF_8);
        for (String part : text.split("(?m)^## ")) {
            int end = part.indexOf('\n');
            String name = part.substring(0, end);
            if (name.equals("Terms") || name.startsWith("Promise ")) {
                // The face of a method is compared by LanguageTests.
                String body = part.substring(end).replaceFirst("^\\s+`[^`]*`: ", "");
                sections.put(name, body);
                quoted.put(name, new boolean[body.length()]);
            }
        }
    }

    static String[] join(Object... parts) {
        List<String> lines = new ArrayList<>();
        for (Object part : parts) {
            if (part instanceof String[]) {
                lines.addAll(Arrays.asList((String[]) part));
            } else {
                lines.add((String) part);
            }
        }
        return lines.toArray(new String[0]);
    }

    static String[] times(int number, Object... parts) {
        List<String> lines = new ArrayList<>();
        for (int i = 0; i < number; i++) {
            lines.addAll(Arrays.asList(join(parts)));
        }
        return lines.toArray(new String[0]);
    }

    private void fault(String what) {
        wrong++;
        System.out.println(section + ", \"" + words + "\": " + what);
    }

    /** What follows quotes this section. */
    void section(String name) {
        section = name;
        if (!sections.containsKey(name)) {
            fault("there is no such section");
        }
    }

    /** The runs that follow would fail if these words of the document were broken. */
    void says(String quotation) {
        endQuotation();
        words = quotation;
        runsOfQuotation = 0;
        quotations++;
        mark(quotation);
    }

    /** Words that name nothing that a run could show. */
    void saysOnly(String quotation) {
        endQuotation();
        mark(quotation);
    }

    private void endQuotation() {
        if (runsOfQuotation == 0) {
            fault("no run tests it");
        }
        runsOfQuotation = 1;
    }

    /** Marks the first place of the words that is not marked yet. */
    private void mark(String quotation) {
        String text = sections.getOrDefault(section, "");
        boolean[] marks = quoted.getOrDefault(section, new boolean[0]);
        int at = text.indexOf(quotation);
        while (at >= 0 && marks[at]) {
            at = text.indexOf(quotation, at + 1);
        }
        if (at < 0) {
            words = quotation;
            fault("the document does not say this (so often)");
            return;
        }
        Arrays.fill(marks, at, at + quotation.length(), true);
    }

    /** Makes a run of calls; each part is a line of a Script, or lines. */
    void run(Object... parts) {
        runs++;
        runsOfQuotation++;
        List<String> lines = Arrays.asList(join(parts));
        List<String> faults = Script.faultsOf(lines);
        if (!faults.isEmpty()) {
            fault("in " + lines + "\n    " + String.join("\n    ", faults));
        }
    }

    /** The call takes the least and the most value at the "?", and none outside of them. */
    void range(String[] start, String call, int least, int most) {
        run(start, call.replace("?", String.valueOf(least)));
        run(start, call.replace("?", String.valueOf(most)));
        outOfRange(start, call, least, most);
    }

    void outOfRange(String[] start, String call, int least, int most) {
        for (int bad : new int[] {least - 1, most + 1}) {
            run(start, call.replace("?", String.valueOf(bad)) + " = BAD_VALUE");
        }
        for (String bad : EXTREMES) {
            run(start, call.replace("?", bad) + " = BAD_VALUE");
        }
    }

    /** There are so many of what stands at the "?": the last one is known, and none beside them. */
    void known(String[] start, String call, int number) {
        if (number > 0) {
            run(start, call.replace("?", String.valueOf(number - 1)));
        }
        unknown(start, call, number);
    }

    void unknown(String[] start, String call, int number) {
        for (String bad : new String[] {"-1", String.valueOf(number), EXTREMES[0], EXTREMES[1]}) {
            run(start, call.replace("?", bad) + " = UNKNOWN");
        }
    }

    /** An act that is no error records the state before it, and undo() brings this back. */
    void records(String[] start, String... act) {
        run(start, "setClearance 11", "undo", "mark", act, "undo", "same");
        // Behind an act, there is one state more to undo.
        run(start, times(5, "setClearance 12"), "undo = 4", "mark", act, "count 8 = 5", "undo = 4", "same");
    }

    /** An act that takes no water, and adds none, shares the waters of the unsettled canal. */
    void shares(String... act) {
        run(UNSETTLED, NOT_SHARED, act, SHARED);
    }

    /** Ends the program, with exit code 1 if a run was wrong or words are not quoted. */
    void end() {
        endQuotation();
        for (String name : sections.keySet()) {
            tellUnquoted(name);
        }
        System.out.println(quotations + " quotations, " + runs + " runs, " + wrong + " faults");
        System.exit(wrong == 0 ? 0 : 1);
    }

    private void tellUnquoted(String name) {
        section = name;
        String text = sections.get(name);
        StringBuilder left = new StringBuilder();
        for (int i = 0; i < text.length(); i++) {
            left.append(quoted.get(name)[i] ? '\n' : text.charAt(i));
        }
        for (String line : left.toString().split("\n")) {
            if (line.matches(".*[A-Za-z0-9].*")) {
                words = line.trim();
                fault("no test quotes it");
            }
        }
    }
}
