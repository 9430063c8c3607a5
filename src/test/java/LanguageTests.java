import java.lang.reflect.Constructor;
import java.lang.reflect.Field;
import java.lang.reflect.Member;
import java.lang.reflect.Method;
import java.lang.reflect.Modifier;
import java.nio.charset.StandardCharsets;
import java.nio.file.Files;
import java.nio.file.Path;
import java.util.Arrays;
import java.util.TreeSet;
import java.util.regex.Matcher;
import java.util.regex.Pattern;

/** Tests of the face of the document, and of what of LANGUAGE.md can be seen from outside. */
public final class LanguageTests {
    private static final Path CLASS = Path.of("src/main/java/BargeLocks.java");
    private static final String FACE = "UNKNOWN BAD_VALUE REFUSED FULL NONE BargeLocks() "
            + "addReach(int,int,int):int addChamber(int,int,int,int,int,int):int setSill(int,int,int):int "
            + "setClearance(int):int dredge(int,int):int supply(int,int):int addBarge(int,int,int,int,int):int "
            + "load(int,int):int pump(int,int):int sluice(int,int):int open(int,int):int close(int):int "
            + "enter(int,int):int leave(int,int):int type(char):int clearText():int runOrders():int undo():int "
            + "keep(int):int restore(int):int reach(int,int):int chamber(int,int):int lying(int,int):int "
            + "barge(int,int):int margin(int,int,int):int flow(int,int):int account(int):long count(int):int";
    /** Rules 2, 4, 6 and 12: words that the program does without. */
    private static final String FORBIDDEN = "\\b(throw|throws|try|catch|finally|synchronized|assert|import|package"
            + "|instanceof|Object|System\\.(?!arraycopy)\\w+|Thread|\\w+Exact|volatile|transient|native|strictfp"
            + "|equals|hashCode|toString|float|double)\\b|->|::|\\bnew \\w+\\([^)]*\\) *\\{";
    private static final int MOST_LINES = 60;
    private static final int MOST_FIELDS = 20;
    private static final int MOST_PARAMETERS = 7;

    private static int wrong = 0;

    public static void main(String[] args) throws Exception {
        face();
        classesInside();
        forbiddenWords();
        shortMethods();
        System.out.println(wrong + " faults");
        System.exit(wrong == 0 ? 0 : 1);
    }

    private static void fault(String what) {
        wrong++;
        System.out.println(what);
    }

    private static void face() {
        TreeSet<String> want = new TreeSet<>(Arrays.asList(FACE.split(" ")));
        TreeSet<String> got = new TreeSet<>();
        for (Constructor<?> each : BargeLocks.class.getDeclaredConstructors()) {
            add(got, each, "BargeLocks" + parameters(each.getParameterTypes()));
        }
        for (Method each : BargeLocks.class.getDeclaredMethods()) {
            add(got, each, each.getName() + parameters(each.getParameterTypes()) + ":" + each.getReturnType());
        }
        for (Field each : BargeLocks.class.getDeclaredFields()) {
            add(got, each, each.getName());
            checkField(each);
        }
        if (!got.equals(want)) {
            fault("the face is " + got + ", due is " + want);
        }
        if (BargeLocks.class.getModifiers() != (Modifier.PUBLIC | Modifier.FINAL)) {
            fault("the class is not just public and final");
        }
    }

    private static void add(TreeSet<String> face, Member member, String name) {
        if (!Modifier.isPrivate(member.getModifiers())) {
            face.add(Modifier.isPublic(member.getModifiers()) ? name : "not public: " + name);
        }
    }

    private static String parameters(Class<?>[] types) {
        StringBuilder told = new StringBuilder("(");
        for (Class<?> type : types) {
            told.append(told.length() == 1 ? "" : ",").append(type.getName());
        }
        return told.append(')').toString();
    }

    private static void checkField(Field field) {
        if (Modifier.isStatic(field.getModifiers())) {
            boolean constant = field.getType().isPrimitive() || field.getType() == String.class;
            if (!Modifier.isFinal(field.getModifiers()) || !constant) {
                fault("rule 5: " + field);
            }
        }
    }

    private static void classesInside() {
        Class<?>[] inside = BargeLocks.class.getDeclaredClasses();
        if (inside.length > 11) {
            fault("rule 11: " + inside.length + " classes inside");
        }
        TreeSet<String> publicNames = new TreeSet<>();
        for (Method each : BargeLocks.class.getMethods()) {
            publicNames.add(each.getName());
        }
        checkMethods(BargeLocks.class, publicNames);
        for (Class<?> each : inside) {
            if (!Modifier.isStatic(each.getModifiers()) || Modifier.isPublic(each.getModifiers())) {
                fault("rule 2: " + each);
            }
            checkMethods(each, publicNames);
            int fields = 0;
            for (Field field : each.getDeclaredFields()) {
                checkField(field);
                fields += Modifier.isStatic(field.getModifiers()) ? 0 : 1;
            }
            if (fields > MOST_FIELDS) {
                fault("rule 11: the fields of " + each);
            }
        }
    }

    private static void checkMethods(Class<?> holder, TreeSet<String> publicNames) {
        for (Method each : holder.getDeclaredMethods()) {
            if (each.getParameterCount() > MOST_PARAMETERS) {
                fault("rule 11: the parameters of " + each);
            }
            if (!Modifier.isPublic(each.getModifiers()) && publicNames.contains(each.getName())) {
                fault("rule 1: the name of " + each);
            }
        }
    }

    /** The program without its comments, and without what its texts say. */
    private static String bareProgram() throws Exception {
        String program = Files.readString(CLASS, StandardCharsets.US_ASCII);
        program = Pattern.compile("/\\*.*?\\*/", Pattern.DOTALL).matcher(program).replaceAll("");
        return program.replaceAll("//[^\n]*", "").replaceAll("\"[^\"\n]*\"", "\"\"");
    }

    private static void forbiddenWords() throws Exception {
        Matcher found = Pattern.compile(FORBIDDEN).matcher(bareProgram());
        while (found.find()) {
            fault("the program says " + found.group());
        }
    }

    private static void shortMethods() throws Exception {
        String[] lines = Files.readString(CLASS, StandardCharsets.US_ASCII).split("\n");
        int begin = 0;
        String end = "";
        for (int i = 0; i < lines.length; i++) {
            if (lines[i].matches(" +[\\w\\[\\] ]+\\([\\w\\[\\], ]*\\) \\{") && end.isEmpty()) {
                begin = i;
                end = lines[i].replaceAll("\\S.*", "") + "}";
            }
            if (!end.isEmpty() && lines[i].equals(end)) {
                if (i - begin >= MOST_LINES) {
                    fault("rule 11: the method at line " + (begin + 1));
                }
                end = "";
            }
        }
    }
}
