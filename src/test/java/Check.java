import java.util.ArrayList;
import java.util.List;

/** Compares answers with those that are due, and tells the ones that differ. */
class Check {
    private final List<String> wrong = new ArrayList<>();
    private int compared = 0;
    private String promise = "";

    void promise(String heading) {
        promise = heading;
    }

    void due(String call, long got, long want) {
        compared++;
        if (got != want) {
            wrong.add(promise + ": " + call + " answered " + got + ", due is " + want);
        }
    }

    void holds(String what, boolean does) {
        compared++;
        if (!does) {
            wrong.add(promise + ": " + what);
        }
    }

    int compared() {
        return compared;
    }

    void typeText(FarBanks x, String text) {
        x.clearText();
        for (int index = 0; index < text.length(); index++) {
            due("type of character " + index + " of \"" + text + "\"", x.type(text.charAt(index)), index + 1);
        }
    }

    void code(FarBanks x, int bank, int cell, String text) {
        typeText(x, text);
        due("assemble of \"" + text + "\"", x.assemble(bank, cell), text.split(";").length);
    }

    void close() {
        for (String line : wrong) {
            System.out.println(line);
        }
        System.out.println(compared + " compared, " + wrong.size() + " wrong");
        if (!wrong.isEmpty()) {
            System.exit(1);
        }
    }
}
