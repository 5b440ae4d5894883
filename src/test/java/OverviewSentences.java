import java.lang.reflect.Constructor;
import java.lang.reflect.Field;
import java.lang.reflect.Member;
import java.lang.reflect.Method;
import java.lang.reflect.Modifier;
import java.util.ArrayList;
import java.util.List;
import java.util.Set;
import java.util.TreeSet;

/** What the document says ahead of its terms: what the class is, and its public face. */
final class OverviewSentences {
    private static final String CLASS_LINE = "public final class FarBanks {";
    private static final List<String> FACE = List.of(
        "public static final int UNKNOWN = -1;",
        "public static final int BAD_VALUE = -2;",
        "public static final int FULL = -3;",
        "public static final int NOT_POSSIBLE = -4;",
        "public static final int NONE = -5;",
        "public FarBanks();",
        "public int put(int bank, int cell, int number);",
        "public int lock(int bank, boolean alone);",
        "public int show(int window, int bank);",
        "public int copyBank(int from, int to);",
        "public int set(int strict);",
        "public int begin(int place);",
        "public int run(int steps);",
        "public int type(char character);",
        "public int clearText();",
        "public int assemble(int bank, int cell);",
        "public int undo();",
        "public int keep();",
        "public int restore();",
        "public int cell(int bank, int cell);",
        "public int address(int address, int what);",
        "public int bank(int bank, int what);",
        "public int window(int window);",
        "public int frame(int rank, int what);",
        "public int latest(int rank, int what);",
        "public int next(int what);",
        "public int ifRun(int steps, int what);",
        "public int backIn();",
        "public int count(int what);");

    private final Sentences s;

    private OverviewSentences(Sentences sentences) {
        s = sentences;
    }

    static void test(Sentences sentences) throws IllegalAccessException {
        OverviewSentences overview = new OverviewSentences(sentences);
        sentences.section("## What it is");
        overview.banks();
        overview.callAcrossBanks();
        overview.swappedBank();
        overview.stops();
        overview.told();
        overview.textsAndAccounts();
        overview.undoAndSnapshot();
        overview.calls();
        overview.face();
    }

    private void banks() {
        s.says("Paged memory of a tiny machine with a window for each far bank:");
        FarBanks x = new FarBanks();
        x.put(7, 3, 70);
        for (int window = 0; window < 4; window++) {
            s.due("show(" + window + ", 7)", x.show(window, 7), window);
            s.due("address(" + (window * 16 + 3) + ", 0)", x.address(window * 16 + 3, 0), 70);
        }
        s.says("banks of cells that are shown in windows,");
        s.due("show(2, 4)", x.show(2, 4), 7);
        s.due("put(4, 3, 40)", x.put(4, 3, 40), 0);
        s.due("address(35, 0)", x.address(35, 0), 40);
        s.due("address(19, 0)", x.address(19, 0), 70);
        s.says("a common part that is the same in all banks,");
        s.due("put(4, 12, 12)", x.put(4, 12, 12), 0);
        for (int bank = 0; bank < 8; bank++) {
            s.due("cell(" + bank + ", 12)", x.cell(bank, 12), 12);
        }
        s.says("banks that can be read alone,");
        s.due("lock(4, true)", x.lock(4, true), 1);
        s.due("bank(4, 0)", x.bank(4, 0), 1);
        s.says("code in the cells,");
        x.put(7, 0, 135);
        x.put(7, 1, 317);
        s.due("next(0)", x.next(0), 135);
        s.due("run(2)", x.run(2), 2);
        s.due("count(0)", x.count(0), 35);
        s.due("cell(7, 1), where the order itself stood", x.cell(7, 1), 35);
    }

    private void callAcrossBanks() {
        s.says("calls across banks that come back to the bank they left,");
        FarBanks x = new FarBanks();
        x.show(0, 2);
        s.code(x, 2, 0, "call 7 4;halt");
        s.code(x, 7, 4, "back");
        s.due("run(1)", x.run(1), 1);
        s.due("window(0), called", x.window(0), 7);
        s.due("count(1), called", x.count(1), 4);
        s.due("run(1)", x.run(1), 1);
        s.due("window(0), come back", x.window(0), 2);
        s.due("count(1), come back", x.count(1), 1);
    }

    private void swappedBank() {
        s.says("a bank that is swapped under the running code,");
        FarBanks x = new FarBanks();
        s.code(x, 0, 0, "show 0 6;load 1");
        s.code(x, 6, 0, "load 2;load 3");
        s.due("run(2)", x.run(2), 2);
        s.due("count(0), by the order of the bank that came", x.count(0), 3);
        s.due("latest(0, 1)", x.latest(0, 1), 6);
        s.due("latest(1, 1)", x.latest(1, 1), 0);
    }

    private void stops() {
        s.says("writes that are refused,");
        FarBanks x = new FarBanks();
        s.code(x, 0, 0, "store 16;store 17");
        x.lock(1, true);
        s.due("run(1)", x.run(1), 1);
        s.due("count(7)", x.count(7), 1);
        s.says("why the machine stops,");
        x.set(1);
        s.due("run(9)", x.run(9), 1);
        s.due("count(3)", x.count(3), 2);
        for (int reason = 1; reason <= 6; reason++) {
            s.due("count(3) stopped for " + reason, Told.stopped(reason).count(3), reason);
        }
    }

    private void told() {
        s.says("frames of calls,");
        FarBanks x = new FarBanks();
        s.code(x, 0, 3, "call 5 2;halt");
        s.code(x, 5, 2, "plus 9;plus 9;back");
        x.begin(3);
        x.run(2);
        s.due("count(2)", x.count(2), 1);
        s.due("frame(0, 0)", x.frame(0, 0), 0);
        s.due("frame(0, 1)", x.frame(0, 1), 0);
        s.says("the latest steps,");
        s.due("latest(0, 0)", x.latest(0, 0), 2);
        s.due("latest(0, 1)", x.latest(0, 1), 5);
        s.due("latest(0, 2)", x.latest(0, 2), 909);
        s.due("latest(1, 0)", x.latest(1, 0), 3);
        s.due("latest(1, 1)", x.latest(1, 1), 0);
        s.due("latest(1, 2)", x.latest(1, 2), 752);
        s.says("what a run would bring,");
        s.due("ifRun(9, 0)", x.ifRun(9, 0), 3);
        s.due("ifRun(9, 1)", x.ifRun(9, 1), 1);
        s.due("ifRun(9, 2)", x.ifRun(9, 2), 18);
        s.due("count(0)", x.count(0), 9);
        s.says("where a call would come back to,");
        s.due("frame(0, 2)", x.frame(0, 2), 4);
        s.due("bank(0, 3)", x.bank(0, 3), 1);
        s.due("backIn()", x.backIn(), 2);
        s.says("cells that are shown twice,");
        s.due("address(1, 3) of a cell that is shown once", x.address(1, 3), FarBanks.NONE);
        x.show(3, 5);
        s.due("address(1, 3)", x.address(1, 3), 49);
        s.due("address(49, 3)", x.address(49, 3), 1);
    }

    private void textsAndAccounts() {
        s.says("code that is read from a text with the places of faults,");
        FarBanks x = new FarBanks();
        s.typeText(x, "plus 1;plsu 2");
        s.due("assemble(0, 0)", x.assemble(0, 0), -109);
        s.code(x, 0, 0, "store 16;store 31;store 40;store 63;store 32;call 6 6;show 1 2");
        s.code(x, 6, 6, "store 0;store 48;back");
        s.says("accounts that add up,");
        x.lock(1, true);
        x.lock(3, true);
        s.due("run(7)", x.run(7), 7);
        s.due("count(2)", x.count(2), 1);
        addUp(x, 0, 8, 2);
        addUp(x, 3, 2, 1);
        addUp(x, 4, 6, 3);
        addUp(x, 5, 7, 3);
        s.due("run(3)", x.run(3), 3);
        s.due("count(4), of two runs", x.count(4), 10);
        addUp(x, 3, 2, 0);
        addUp(x, 4, 6, 3);
        addUp(x, 5, 7, 4);
        s.due("ifRun(999, 0) does not count", x.ifRun(999, 0), 1);
        s.due("count(4)", x.count(4), 10);
        addUp(x, 5, 7, 4);
    }

    /** What all banks tell is together what is counted. */
    private void addUp(FarBanks x, int ofBank, int ofCount, int due) {
        int sum = 0;
        for (int bank = 0; bank < 8; bank++) {
            sum += x.bank(bank, ofBank);
        }
        s.due("bank(0 to 7, " + ofBank + ") together", sum, due);
        s.due("count(" + ofCount + ")", x.count(ofCount), due);
    }

    private void undoAndSnapshot() {
        s.says("undo and a snapshot.");
        FarBanks x = new FarBanks();
        x.put(0, 0, 1);
        x.keep();
        x.put(0, 0, 2);
        x.put(0, 0, 3);
        s.due("undo()", x.undo(), 2);
        s.due("cell(0, 0), undone", x.cell(0, 0), 2);
        s.due("restore()", x.restore(), 0);
        s.due("cell(0, 0), of the snapshot", x.cell(0, 0), 1);
    }

    private void calls() {
        s.says("An object is used for at most 512 calls after it has been made");
        FarBanks x = new FarBanks();
        x.put(0, 0, 400);
        for (int call = 2; call <= 510; call++) {
            s.due("call " + call + ", run(999)", x.run(999), 999);
        }
        s.due("call 511, undo()", x.undo(), 3);
        s.due("call 512, count(4)", x.count(4), 508 * 999);
        s.aside("; what later calls answer is free.");
    }

    private void face() throws IllegalAccessException {
        s.section("## The public face");
        s.aside("```java");
        s.says(CLASS_LINE);
        Class<?> seen = FarBanks.class;
        s.due("public final, and nothing more", seen.getModifiers(), Modifier.PUBLIC | Modifier.FINAL);
        s.holds("has a package", seen.getPackageName().isEmpty());
        s.holds("is made from another class", seen.getSuperclass() == Object.class);
        s.holds("is another thing, too", seen.getInterfaces().length == 0);
        Set<String> declared = declared();
        for (String line : FACE) {
            s.says(line);
            s.holds("is not in the class", declared.remove(withoutNames(line)));
        }
        s.holds("besides these there is " + declared, declared.isEmpty());
    }

    private static String withoutNames(String line) {
        return line.replaceAll("(\\w+) \\w+(?=[,)])", "$1");
    }

    /** All that can be seen from outside, as the document writes it, but for the names of arguments. */
    private static Set<String> declared() throws IllegalAccessException {
        Set<String> lines = new TreeSet<>();
        for (Field field : FarBanks.class.getDeclaredFields()) {
            if (isSeen(field)) {
                lines.add(Modifier.toString(field.getModifiers()) + " " + field.getType().getName() + " "
                    + field.getName() + " = " + field.getInt(null) + ";");
            }
        }
        for (Method method : FarBanks.class.getDeclaredMethods()) {
            if (isSeen(method)) {
                lines.add(Modifier.toString(method.getModifiers()) + " " + method.getReturnType().getName() + " "
                    + method.getName() + arguments(method.getParameterTypes()));
            }
        }
        for (Constructor<?> constructor : FarBanks.class.getDeclaredConstructors()) {
            lines.add(Modifier.toString(constructor.getModifiers()) + " " + constructor.getName()
                + arguments(constructor.getParameterTypes()));
        }
        return lines;
    }

    private static boolean isSeen(Member member) {
        return !Modifier.isPrivate(member.getModifiers());
    }

    private static String arguments(Class<?>[] types) {
        List<String> names = new ArrayList<>();
        for (Class<?> type : types) {
            names.add(type.getName());
        }
        return "(" + String.join(", ", names) + ");";
    }
}
