/** Promises 9 to 11: type, clearText, assemble. */
final class TextsTest {
    private static final Check CHECK = new Check();

    public static void main(String[] args) {
        type();
        clearText();
        assembledOrders();
        faults();
        assembleArguments();
        assembleKeepsText();
        CHECK.close();
    }

    private static void type() {
        CHECK.promise("Promise 9");
        FarBanks x = new FarBanks();
        char[] any = {'a', ' ', (char) 0, (char) 65535, (char) 233};
        for (int length = 1; length <= 80; length++) {
            CHECK.due("type", x.type(any[length % any.length]), length);
            CHECK.due("count(11)", x.count(11), length);
        }
        CHECK.due("type of an 81st", x.type('a'), FarBanks.FULL);
        CHECK.due("count(11)", x.count(11), 80);
        CHECK.due("count(10): no act", x.count(10), 0);
        CHECK.due("undo()", x.undo(), FarBanks.NONE);
    }

    private static void clearText() {
        CHECK.promise("Promise 10");
        FarBanks x = new FarBanks();
        CHECK.due("clearText()", x.clearText(), 0);
        x.type('b');
        x.type('c');
        CHECK.due("clearText()", x.clearText(), 2);
        CHECK.due("count(11)", x.count(11), 0);
        CHECK.due("clearText()", x.clearText(), 0);
        CHECK.due("type behind it", x.type('h'), 1);
        CHECK.due("count(10): no act", x.count(10), 0);
    }

    private static void assembledOrders() {
        CHECK.promise("Promise 11");
        String[] texts = {
            "halt", "load 0", "load 99", "add 63", "add 7", "store 60", "jump 59", "zero 10", "show 3 7",
            "show 0 0", "call 7 9", "call 0 0", "back", "plus 99", "plus 0", "plus 10"};
        int[] due = {0, 100, 199, 263, 207, 360, 459, 510, 637, 600, 779, 700, 800, 999, 900, 910};
        FarBanks x = new FarBanks();
        for (int index = 0; index < texts.length; index++) {
            x.put(1, 3, 555);
            CHECK.code(x, 1, 3, texts[index]);
            CHECK.due("cell(1, 3) of " + texts[index], x.cell(1, 3), due[index]);
            CHECK.due("cell(1, 4) of " + texts[index], x.cell(1, 4), 0);
        }
        FarBanks y = new FarBanks();
        y.put(4, 9, 1);
        y.put(4, 14, 2);
        y.lock(4, true);
        CHECK.code(y, 4, 10, "plus 1;plus 2;plus 3;show 1 2");
        for (int bank = 0; bank < 8; bank++) {
            CHECK.due("cell(" + bank + ", 11)", y.cell(bank, 11), bank == 4 ? 902 : 0);
            CHECK.due("cell(" + bank + ", 12)", y.cell(bank, 12), 903);
            CHECK.due("cell(" + bank + ", 13)", y.cell(bank, 13), 612);
        }
        CHECK.due("cell(4, 9) ahead of the code", y.cell(4, 9), 1);
        CHECK.due("cell(4, 14) behind the code", y.cell(4, 14), 2);
        CHECK.due("count(6)", y.count(6), 0);
        CHECK.due("count(7)", y.count(7), 0);
    }

    private static void fault(String text, int fault) {
        FarBanks x = new FarBanks();
        CHECK.typeText(x, text);
        CHECK.due("assemble of \"" + text + "\"", x.assemble(0, 0), -100 - fault);
        CHECK.due("count(10) behind \"" + text + "\"", x.count(10), 0);
        CHECK.due("bank(0, 2) behind \"" + text + "\"", x.bank(0, 2), 0);
    }

    private static void faults() {
        CHECK.promise("Promise 11");
        fault("", 0);
        fault(";", 0);
        fault(" halt", 0);
        fault("Halt", 0);
        fault("1", 0);
        fault("h", 1);
        fault("ha", 2);
        fault("hat", 2);
        fault("st", 2);
        fault("stow", 3);
        fault("sh", 2);
        fault("shot", 3);
        fault("s", 1);
        fault("sa", 1);
        fault("b;", 1);
        fault("halt ", 4);
        fault("halt 1", 4);
        fault("halt;", 5);
        fault("halt;;", 5);
        fault("halt; halt", 5);
        fault("halt ;halt", 4);
        fault("back,halt", 4);
        fault("load", 4);
        fault("load;", 4);
        fault("load ", 5);
        fault("load  1", 5);
        fault("load x", 5);
        fault("load -1", 5);
        fault("load 00", 6);
        fault("load 01", 6);
        fault("load 100", 7);
        fault("load 5 ", 6);
        fault("load 5 5", 6);
        fault("load 5;", 7);
        fault("plus 999", 7);
        fault("add 64", 5);
        fault("add 70", 5);
        fault("add 630", 6);
        fault("store 64", 7);
        fault("jump 99", 6);
        fault("zero 65", 6);
        fault("show 4 0", 5);
        fault("show 10 0", 6);
        fault("show 3", 6);
        fault("show 3;", 6);
        fault("show 3 ", 7);
        fault("show 3 8", 7);
        fault("show 3 70", 8);
        fault("show 3 7 1", 8);
        fault("call 8 0", 5);
        fault("call 7", 6);
        fault("call 7 10", 8);
        fault("call 7  1", 7);
        fault("load 1;add 2;jmp 3", 14);
        fault("halt" + (char) 0, 4);
        fault("load " + (char) 0x663, 5);
        fault("" + (char) 65535, 0);
        fault("halt;halt;halt;halt;halt;halt;halt;halt;halt;halt;halt;halt;halt;halt;halt;halt;", 80);
        fault("load 11;load 11;load 11;load 11;load 11;load 11;load 11;load 11;load 11;load 100", 79);
    }

    private static void assembleArguments() {
        CHECK.promise("Promise 11");
        FarBanks x = new FarBanks();
        CHECK.due("assemble(8, 0) of the empty text", x.assemble(8, 0), FarBanks.UNKNOWN);
        CHECK.due("assemble(0, 15) of the empty text", x.assemble(0, 15), -100);
        CHECK.typeText(x, "plus 1;plus 2");
        CHECK.due("assemble(-1, 0)", x.assemble(-1, 0), FarBanks.UNKNOWN);
        CHECK.due("assemble(8, 0)", x.assemble(8, 0), FarBanks.UNKNOWN);
        CHECK.due("assemble(0, -1)", x.assemble(0, -1), FarBanks.UNKNOWN);
        CHECK.due("assemble(0, 16)", x.assemble(0, 16), FarBanks.UNKNOWN);
        CHECK.due("assemble(0, 15)", x.assemble(0, 15), FarBanks.FULL);
        CHECK.due("cell(0, 15) behind FULL", x.cell(0, 15), 0);
        CHECK.due("count(10) behind errors", x.count(10), 0);
        CHECK.due("assemble(7, 14)", x.assemble(7, 14), 2);
        CHECK.due("cell(0, 15)", x.cell(0, 15), 902);
        CHECK.typeText(x, "plus 1;plus 100");
        CHECK.due("assemble(0, 15): the fault comes first", x.assemble(0, 15), -114);
        String sixteen = "halt;back;halt;back;halt;back;halt;back;halt;back;halt;back;halt;back;halt;back";
        CHECK.typeText(x, sixteen);
        CHECK.due("assemble(2, 1) of sixteen orders", x.assemble(2, 1), FarBanks.FULL);
        CHECK.due("assemble(2, 0) of sixteen orders", x.assemble(2, 0), 16);
        for (int cell = 0; cell < 16; cell++) {
            CHECK.due("cell(2, " + cell + ")", x.cell(2, cell), cell % 2 == 0 ? 0 : 800);
        }
    }

    private static void assembleKeepsText() {
        CHECK.promise("Promise 11");
        FarBanks x = new FarBanks();
        CHECK.code(x, 0, 0, "plus 4");
        CHECK.due("count(11)", x.count(11), 6);
        CHECK.due("assemble again", x.assemble(0, 0), 1);
        CHECK.due("count(10): an act that changes nothing", x.count(10), 2);
        CHECK.due("undo()", x.undo(), 1);
        CHECK.due("cell(0, 0)", x.cell(0, 0), 904);
        CHECK.due("undo()", x.undo(), 0);
        CHECK.due("cell(0, 0)", x.cell(0, 0), 0);
        CHECK.due("count(11): the text is no part of a state", x.count(11), 6);
    }
}
