/** What the document's terms say of banks, windows and texts. */
final class BanksSentences {
    private static final String SIXTEEN_ORDERS =
        "halt;back;halt;back;halt;back;halt;back;halt;back;halt;back;halt;back;halt;back";

    private final Sentences s;

    private BanksSentences(Sentences sentences) {
        s = sentences;
    }

    static void test(Sentences sentences) {
        BanksSentences banks = new BanksSentences(sentences);
        banks.cells();
        banks.numbersOfCells();
        banks.commonPart();
        banks.windows();
        banks.addresses();
        banks.bankInSeveralWindows();
        banks.bankReadAlone();
        banks.commonPartReadAlone();
        banks.fullText();
        banks.orders();
        banks.blanks();
        banks.words();
        banks.numbers();
        banks.faults();
    }

    private void cells() {
        s.section("BANKS, WINDOWS");
        s.says("There are 8 banks, 0 to 7, each with 16 cells, 0 to 15;");
        FarBanks x = new FarBanks();
        for (int cell = 0; cell < 16; cell++) {
            for (int bank = 0; bank < (cell < 12 ? 8 : 1); bank++) {
                s.due("put", x.put(bank, cell, 1 + bank * 16 + cell), 0);
            }
        }
        for (int cell = 0; cell < 16; cell++) {
            for (int bank = 0; bank < 8; bank++) {
                int due = 1 + (cell < 12 ? bank * 16 : 0) + cell;
                s.due("cell(" + bank + ", " + cell + ")", x.cell(bank, cell), due);
            }
        }
        s.range("cell(bank, 15)", 0, 7, FarBanks.UNKNOWN, bank -> x.cell(bank, 15));
        s.range("cell(7, cell)", 0, 15, FarBanks.UNKNOWN, cell -> x.cell(7, cell));
    }

    private void numbersOfCells() {
        s.says("a cell has a number, 0 to 999 (0 at first).");
        FarBanks x = new FarBanks();
        for (int bank = 0; bank < 8; bank++) {
            for (int cell = 0; cell < 16; cell++) {
                s.due("cell(" + bank + ", " + cell + ") at first", x.cell(bank, cell), 0);
            }
        }
        s.due("put(0, 0, 999)", x.put(0, 0, 999), 0);
        s.due("put(0, 0, 1000)", x.put(0, 0, 1000), FarBanks.BAD_VALUE);
        s.due("put(0, 0, -1)", x.put(0, 0, -1), FarBanks.BAD_VALUE);
        s.due("cell(0, 0)", x.cell(0, 0), 999);
        s.due("put(0, 0, 0)", x.put(0, 0, 0), 999);
        s.due("cell(0, 0)", x.cell(0, 0), 0);
    }

    private void commonPart() {
        s.says("The cells 12 to 15 are the common part: they are the same in all banks; "
            + "what is put into one of them is put into all.");
        FarBanks x = new FarBanks();
        for (int cell = 11; cell < 16; cell++) {
            s.due("put(" + (cell - 8) + ", " + cell + ", 7)", x.put(cell - 8, cell, 7), 0);
            for (int bank = 0; bank < 8; bank++) {
                int due = cell > 11 || bank == 3 ? 7 : 0;
                s.due("cell(" + bank + ", " + cell + ")", x.cell(bank, cell), due);
            }
        }
        s.code(x, 0, 0, "load 8;store 59;store 60;store 63");
        x.run(4);
        for (int bank = 0; bank < 8; bank++) {
            s.due("cell(" + bank + ", 11)", x.cell(bank, 11), bank == 3 ? 8 : 0);
            s.due("cell(" + bank + ", 12)", x.cell(bank, 12), 8);
            s.due("cell(" + bank + ", 14)", x.cell(bank, 14), 7);
            s.due("cell(" + bank + ", 15)", x.cell(bank, 15), 8);
        }
    }

    private void windows() {
        s.says("There are 4 windows, 0 to 3; each shows a bank (at first the window w the bank w).");
        FarBanks x = new FarBanks();
        for (int window = 0; window < 4; window++) {
            s.due("window(" + window + ") at first", x.window(window), window);
        }
        s.range("window", 0, 3, FarBanks.UNKNOWN, x::window);
        s.due("show(0, 7)", x.show(0, 7), 0);
        s.due("show(3, 0)", x.show(3, 0), 3);
        s.due("show(4, 0)", x.show(4, 0), FarBanks.UNKNOWN);
        s.due("window(0)", x.window(0), 7);
        s.due("window(3)", x.window(3), 0);
    }

    private void addresses() {
        s.says("The address a (0 to 63) is the cell a modulo 16 of the bank that the window a / 16, "
            + "rounded down, shows.");
        FarBanks x = new FarBanks();
        for (int window = 0; window < 4; window++) {
            x.show(window, 7 - window);
            for (int cell = 0; cell < 12; cell++) {
                x.put(7 - window, cell, 100 * window + cell);
            }
        }
        for (int address = 0; address < 64; address++) {
            int number = address % 16 < 12 ? address / 16 * 100 + address % 16 : 0;
            s.due("address(" + address + ", 0)", x.address(address, 0), number);
            s.due("address(" + address + ", 1)", x.address(address, 1), 7 - address / 16);
            s.due("address(" + address + ", 2)", x.address(address, 2), address % 16);
        }
        s.range("address(address, 2)", 0, 63, FarBanks.UNKNOWN, address -> x.address(address, 2));
        FarBanks y = new FarBanks();
        y.show(3, 6);
        s.code(y, 0, 0, "add 15;add 16;add 59;store 58");
        y.put(0, 15, 1);
        y.put(1, 0, 20);
        y.put(6, 11, 300);
        s.due("run(4)", y.run(4), 4);
        s.due("cell(6, 10)", y.cell(6, 10), 321);
    }

    private void bankInSeveralWindows() {
        s.says("The same bank can be shown in several windows.");
        FarBanks x = new FarBanks();
        for (int window = 0; window < 4; window++) {
            s.due("show(" + window + ", 5)", x.show(window, 5), window);
        }
        s.code(x, 5, 0, "load 9;store 27;add 43;add 59;store 11");
        s.due("run(2)", x.run(2), 2);
        for (int window = 0; window < 4; window++) {
            s.due("window(" + window + ")", x.window(window), 5);
            s.due("address(" + (window * 16 + 11) + ", 0)", x.address(window * 16 + 11, 0), 9);
        }
        s.due("run(3)", x.run(3), 3);
        s.due("cell(5, 11)", x.cell(5, 11), 27);
    }

    private void bankReadAlone() {
        s.says("A bank can be read alone: then writing to it by the running code is refused.");
        FarBanks x = new FarBanks();
        s.code(x, 0, 0, "load 5;add 17;store 16;store 27;store 32;store 11");
        x.put(1, 1, 40);
        for (int bank = 0; bank < 2; bank++) {
            s.due("lock(" + bank + ", true)", x.lock(bank, true), bank + 1);
        }
        s.due("run(6) in a bank that can be read alone", x.run(6), 6);
        s.due("number, read from such a bank", x.count(0), 45);
        s.due("cell(1, 0)", x.cell(1, 0), 0);
        s.due("cell(1, 11)", x.cell(1, 11), 0);
        s.due("cell(0, 11), its own bank", x.cell(0, 11), 0);
        s.due("cell(2, 0), of a bank that can be written", x.cell(2, 0), 45);
        x.lock(1, false);
        x.begin(1);
        x.run(5);
        s.due("cell(1, 11) of a bank that can be written again", x.cell(1, 11), 40);
    }

    private void commonPartReadAlone() {
        s.says("(A write to the common part is refused if the bank by which it is written can be read alone;");
        FarBanks x = new FarBanks();
        s.code(x, 0, 0, "load 6;store 28;store 31;store 12;store 15");
        x.lock(1, true);
        s.due("run(3)", x.run(3), 3);
        s.due("cell(0, 12)", x.cell(0, 12), 0);
        s.due("cell(0, 15)", x.cell(0, 15), 0);
        s.due("count(7)", x.count(7), 2);
        s.says("what is put into the common part by another bank is put into those that can be read alone, too.)");
        s.due("run(2)", x.run(2), 2);
        s.due("cell(1, 12)", x.cell(1, 12), 6);
        s.due("cell(1, 15)", x.cell(1, 15), 6);
        s.due("put(2, 13, 4)", x.put(2, 13, 4), 0);
        s.due("cell(1, 13)", x.cell(1, 13), 4);
        s.due("count(7)", x.count(7), 2);
    }

    private void fullText() {
        s.section("TEXTS");
        s.says("There is a text of at most 80 characters, empty at first.");
        FarBanks x = new FarBanks();
        s.due("count(11) at first", x.count(11), 0);
        s.due("assemble(0, 0) at first", x.assemble(0, 0), -100);
        s.due("clearText() at first", x.clearText(), 0);
        s.typeText(x, SIXTEEN_ORDERS);
        s.due("clearText() behind 79 characters", x.clearText(), 79);
        for (int length = 1; length <= 80; length++) {
            s.due("type", x.type('x'), length);
        }
        s.due("type behind 80 characters", x.type('x'), FarBanks.FULL);
        s.due("count(11)", x.count(11), 80);
        s.due("clearText()", x.clearText(), 80);
        s.due("type", x.type('x'), 1);
    }

    private void assembles(String text, int... orders) {
        FarBanks x = new FarBanks();
        s.code(x, 0, 0, text);
        for (int cell = 0; cell < 16; cell++) {
            int due = cell < orders.length ? orders[cell] : 0;
            s.due("cell(0, " + cell + ") of \"" + text + "\"", x.cell(0, cell), due);
        }
    }

    private void fault(String text, int fault) {
        FarBanks x = new FarBanks();
        s.typeText(x, text);
        s.due("assemble of \"" + text + "\"", x.assemble(0, 0), -100 - fault);
        s.due("count(10) behind \"" + text + "\"", x.count(10), 0);
    }

    private void orders() {
        s.says("Code is a text: one or more orders with \";\" between two;");
        assembles("back", 800);
        assembles("back;load 1", 800, 101);
        assembles(SIXTEEN_ORDERS, 0, 800, 0, 800, 0, 800, 0, 800, 0, 800, 0, 800, 0, 800, 0, 800);
        fault("", 0);
        fault(";", 0);
        fault(";halt", 0);
        fault("halt;", 5);
        fault("halt;;halt", 5);
        fault("load 5;", 7);
        fault("haltback", 4);
        fault("halt,back", 4);
        fault("load 5back", 6);
        fault("halt:back", 4);
    }

    private void blanks() {
        s.says("an order is a word and its numbers, each with one blank ahead of it:");
        assembles("load 5;call 7 9;halt", 105, 779, 0);
        fault("load5", 4);
        fault("load  5", 5);
        fault("load\t5", 4);
        fault("loa 5", 3);
        fault("sho 1 2", 3);
        fault("show  3", 5);
        fault("show 3  ", 7);
        fault("call  3", 5);
        fault("load 5 ", 6);
        fault("call 79", 6);
        fault("call 7  9", 7);
        fault("call 7;9", 6);
        fault("call7 9", 4);
        fault(" halt", 0);
        fault("halt ", 4);
        fault("halt ;halt", 4);
        fault("halt; halt", 5);
    }

    private void words() {
        s.says("\"halt\",");
        assembles("halt", 0);
        fault("hals", 3);
        fault("halt 0", 4);
        s.says("\"load\" and n (0 to 99),");
        assembles("load 0;load 9;load 10;load 99", 100, 109, 110, 199);
        fault("load 100", 7);
        s.says("\"add\", \"store\", \"jump\" or \"zero\" and an address (0 to 63),");
        String[] words = {"add", "store", "jump", "zero"};
        for (int index = 0; index < words.length; index++) {
            String word = words[index];
            int kind = index * 100 + 200;
            assembles(word + " 0;" + word + " 9;" + word + " 60;" + word + " 63", kind, kind + 9, kind + 60, kind + 63);
            fault(word + " 64", word.length() + 2);
            fault(word + " 69", word.length() + 2);
            fault(word + " 70", word.length() + 2);
            fault(word + " 99", word.length() + 2);
            fault(word + " 100", word.length() + 3);
        }
        s.says("\"show\", a window (0 to 3) and a bank (0 to 7),");
        assembles("show 0 0;show 3 7;show 0 7;show 3 0", 600, 637, 607, 630);
        fault("show 4 0", 5);
        fault("show 9 0", 5);
        fault("show 10 0", 6);
        fault("show 3 8", 7);
        fault("show 3 10", 8);
        s.says("\"call\", a bank and a cell (0 to 9),");
        assembles("call 0 0;call 7 9;call 0 9;call 7 0", 700, 779, 709, 770);
        fault("call 8 0", 5);
        fault("call 9 0", 5);
        fault("call 10 0", 6);
        fault("call 7 10", 8);
        s.says("\"back\",");
        assembles("back", 800);
        fault("bac", 3);
        fault("back 0", 4);
        s.says("\"plus\" and n (0 to 99).");
        assembles("plus 0;plus 9;plus 10;plus 99", 900, 909, 910, 999);
        fault("plus 100", 7);
    }

    private void numbers() {
        s.says("Numbers have no zero in front, unless they are the single digit 0;");
        assembles("plus 0;add 0;show 0 0;call 0 0;zero 0", 900, 200, 600, 700, 500);
        fault("plus 00", 6);
        fault("plus 01", 6);
        fault("load 09", 6);
        fault("add 00", 5);
        fault("store 007", 7);
        fault("show 01 1", 6);
        fault("show 1 01", 8);
        fault("call 00 0", 6);
        fault("call 0 00", 8);
        s.says("a digit by which a number would be greater than told is not allowed.");
        assembles("jump 7;jump 63;load 99", 407, 463, 199);
        fault("jump 64", 6);
        fault("jump 630", 7);
        fault("jump 70", 6);
        fault("show 4 0", 5);
        fault("show 0 8", 7);
        fault("call 8 0", 5);
        fault("load 990", 7);
        fault("load 123", 7);
        fault("show 30 0", 6);
        fault("show 0 70", 8);
        fault("call 70 0", 6);
        fault("call 0 90", 8);
    }

    private void faults() {
        s.says("The fault of the text is the index, from 0, of the first character that is not allowed at its place,");
        fault("x", 0);
        fault("hx", 1);
        fault("stx", 2);
        fault("shx", 2);
        fault("sx", 1);
        fault("store x", 6);
        fault("Halt", 0);
        fault("halt;x;y", 5);
        fault("load 1;add 64;sub 1", 12);
        fault("load -1", 5);
        fault("halt" + (char) 0, 4);
        fault("load " + (char) 0x661, 5);
        fault("hal" + (char) ('t' + 256), 3);
        fault(SIXTEEN_ORDERS + "x", 79);
        s.says("or the length of the text if it ends too early (the empty text does).");
        fault("", 0);
        fault("h", 1);
        fault("hal", 3);
        fault("s", 1);
        fault("st", 2);
        fault("load", 4);
        fault("load ", 5);
        fault("show 1", 6);
        fault("show 1 ", 7);
        fault("halt;", 5);
        fault("halt;b", 6);
        fault(SIXTEEN_ORDERS + ";", 80);
    }
}
