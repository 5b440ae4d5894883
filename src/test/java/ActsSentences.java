import java.util.function.ToIntFunction;

/** What the document says of promises 1 to 14: a new object, the acts, texts and the history. */
final class ActsSentences {
    private static final String ACT = "This is an act.";
    private static final String BANK = "- `bank`: 0 to 7";
    private static final String CELL = "- `cell`: 0 to 15";
    private static final String SAME = "NONE if it is so already.";

    private final Sentences s;

    private ActsSentences(Sentences sentences) {
        s = sentences;
    }

    static void test(Sentences sentences) {
        ActsSentences acts = new ActsSentences(sentences);
        acts.newObject();
        acts.put();
        acts.lock();
        acts.show();
        acts.copyBank();
        acts.set();
        acts.begin();
        acts.beginAnswers();
        acts.run();
        acts.runAnswers();
        acts.type();
        acts.clearText();
        acts.assemble();
        acts.assembleAnswers();
        acts.undo();
        acts.keep();
        acts.restore();
    }

    /** An act is recorded, and undo takes all of it back. */
    private void act(String call, ToIntFunction<FarBanks> answer) {
        s.says(ACT);
        FarBanks x = Told.busy("halt");
        FarBanks y = Told.busy("halt");
        s.holds(call + " answers no error", answer.applyAsInt(x) >= 0);
        s.due("undo() of " + call, x.undo(), 3);
        s.due("differences behind undo() of " + call, Told.differences(x, y), 0);
        FarBanks z = new FarBanks();
        s.typeText(z, "halt");
        z.keep();
        z.put(1, 0, 800);
        s.holds(call + " answers no error", answer.applyAsInt(z) >= 0);
        s.due("count(10) behind " + call, z.count(10), 2);
    }

    private void newObject() {
        s.section("## Promise 1: A new object");
        s.says("Creates a machine with cells of 0, at the place 0.");
        FarBanks x = new FarBanks();
        for (int bank = 0; bank < 8; bank++) {
            for (int cell = 0; cell < 16; cell++) {
                s.due("cell(" + bank + ", " + cell + ")", x.cell(bank, cell), 0);
            }
        }
        s.due("place", x.count(1), 0);
        s.due("begin(5)", x.begin(5), 0);
    }

    private void put() {
        s.section("## Promise 2: put");
        s.says("Puts a number into a cell, whether its bank can be read alone or not.");
        FarBanks x = new FarBanks();
        x.lock(3, true);
        s.due("put(3, 0, 7)", x.put(3, 0, 7), 0);
        s.due("put(3, 12, 8)", x.put(3, 12, 8), 0);
        s.due("put(4, 0, 9)", x.put(4, 0, 9), 0);
        s.due("cell(3, 0)", x.cell(3, 0), 7);
        s.due("cell(3, 12)", x.cell(3, 12), 8);
        s.due("cell(4, 0)", x.cell(4, 0), 9);
        s.due("refused", x.count(7), 0);
        act("put(7, 0, 5)", y -> y.put(7, 0, 5));
        s.says(BANK);
        s.range("put(bank, 1, 5)", 0, 7, FarBanks.UNKNOWN, bank -> x.put(bank, 1, 5));
        s.due("cell(0, 1)", x.cell(0, 1), 5);
        s.due("cell(7, 1)", x.cell(7, 1), 5);
        s.says(CELL);
        s.range("put(1, cell, 6)", 0, 15, FarBanks.UNKNOWN, cell -> x.put(1, cell, 6));
        s.due("cell(1, 0)", x.cell(1, 0), 6);
        s.due("cell(1, 15)", x.cell(1, 15), 6);
        s.says("- `number`: 0 to 999");
        s.range("put(1, 0, number)", 0, 999, FarBanks.BAD_VALUE, number -> x.put(1, 0, number));
        s.due("cell(1, 0)", x.cell(1, 0), 999);
        putAnswers();
    }

    private void putAnswers() {
        s.says("Returns the previous number;");
        FarBanks x = new FarBanks();
        s.due("put(0, 0, 999)", x.put(0, 0, 999), 0);
        s.due("put(0, 0, 1)", x.put(0, 0, 1), 999);
        s.due("put(0, 15, 2)", x.put(0, 15, 2), 0);
        s.due("put(7, 15, 3)", x.put(7, 15, 3), 2);
        s.says("UNKNOWN (bank or cell);");
        s.due("put(8, 0, 1)", x.put(8, 0, 1), FarBanks.UNKNOWN);
        s.due("put(0, 16, 1)", x.put(0, 16, 1), FarBanks.UNKNOWN);
        s.due("put(8, 15, 3)", x.put(8, 15, 3), FarBanks.UNKNOWN);
        s.due("put(-1, -1, -1)", x.put(-1, -1, -1), FarBanks.UNKNOWN);
        s.says("BAD_VALUE;");
        s.due("put(0, 0, 1000)", x.put(0, 0, 1000), FarBanks.BAD_VALUE);
        s.due("put(0, 0, -1)", x.put(0, 0, -1), FarBanks.BAD_VALUE);
        s.says(SAME);
        s.due("put(0, 0, 1)", x.put(0, 0, 1), FarBanks.NONE);
        s.due("put(1, 0, 0)", x.put(1, 0, 0), FarBanks.NONE);
        s.due("put(4, 15, 3), put by another bank", x.put(4, 15, 3), FarBanks.NONE);
        s.due("count(10)", x.count(10), 4);
    }

    private void lock() {
        s.section("## Promise 3: lock");
        s.says("Lets a bank be read alone, or written, too.");
        FarBanks x = new FarBanks();
        x.put(0, 0, 316);
        x.lock(1, true);
        x.run(1);
        s.due("refused with lock(1, true)", x.bank(1, 5), 1);
        x.lock(1, false);
        x.begin(0);
        x.run(1);
        s.due("refused with lock(1, false)", x.bank(1, 5), 1);
        s.due("written with lock(1, false)", x.bank(1, 4), 1);
        act("lock(7, true)", y -> y.lock(7, true));
        s.says(BANK);
        FarBanks z = new FarBanks();
        s.range("lock(bank, true)", 0, 7, FarBanks.UNKNOWN, bank -> z.lock(bank, true));
        s.range("lock(bank, false)", 0, 7, FarBanks.UNKNOWN, bank -> z.lock(bank, false));
        s.says("- `alone`: whether it can be read alone then");
        z.lock(4, true);
        s.due("bank(4, 0)", z.bank(4, 0), 1);
        z.lock(4, false);
        s.due("bank(4, 0)", z.bank(4, 0), 0);
        s.says("Returns how many banks can be read alone then;");
        for (int bank = 0; bank < 8; bank++) {
            s.due("lock(" + bank + ", true)", z.lock(bank, true), bank + 1);
        }
        for (int bank = 0; bank < 8; bank++) {
            s.due("lock(" + bank + ", false)", z.lock(bank, false), 7 - bank);
        }
        s.says("UNKNOWN;");
        s.due("lock(8, true)", z.lock(8, true), FarBanks.UNKNOWN);
        s.due("lock(-1, false)", z.lock(-1, false), FarBanks.UNKNOWN);
        s.says(SAME);
        s.due("lock(0, false)", z.lock(0, false), FarBanks.NONE);
        s.due("lock(0, true)", z.lock(0, true), 1);
        s.due("lock(0, true)", z.lock(0, true), FarBanks.NONE);
    }

    private void show() {
        s.section("## Promise 4: show");
        s.says("Shows a bank in a window.");
        FarBanks x = new FarBanks();
        x.put(6, 3, 77);
        x.show(1, 6);
        s.due("window(1)", x.window(1), 6);
        s.due("address(19, 0)", x.address(19, 0), 77);
        act("show(0, 1)", y -> y.show(0, 1));
        s.says("- `window`: 0 to 3");
        s.range("show(window, 7)", 0, 3, FarBanks.UNKNOWN, window -> x.show(window, 7));
        s.due("window(0)", x.window(0), 7);
        s.due("window(3)", x.window(3), 7);
        s.says(BANK);
        s.range("show(2, bank)", 0, 7, FarBanks.UNKNOWN, bank -> x.show(2, bank));
        s.due("window(2)", x.window(2), 7);
        s.says("Returns the bank that it showed;");
        s.due("show(2, 0)", x.show(2, 0), 7);
        s.due("show(2, 5)", x.show(2, 5), 0);
        s.says("UNKNOWN (window or bank);");
        s.due("show(4, 0)", x.show(4, 0), FarBanks.UNKNOWN);
        s.due("show(0, 8)", x.show(0, 8), FarBanks.UNKNOWN);
        s.due("show(4, 8)", x.show(4, 8), FarBanks.UNKNOWN);
        s.says(SAME);
        s.due("show(2, 5)", x.show(2, 5), FarBanks.NONE);
        s.due("show(0, 7)", x.show(0, 7), FarBanks.NONE);
        s.due("show(3, 3) at first", new FarBanks().show(3, 3), FarBanks.NONE);
    }

    private void copyBank() {
        s.section("## Promise 5: copyBank");
        s.says("Copies a bank to another one, but for the common part, whether that can be read alone or not.");
        FarBanks x = new FarBanks();
        for (int cell = 0; cell < 16; cell++) {
            x.put(5, cell, 50 + cell);
        }
        x.lock(6, true);
        s.due("copyBank(5, 6)", x.copyBank(5, 6), 12);
        s.due("copyBank(5, 7)", x.copyBank(5, 7), 12);
        for (int cell = 0; cell < 16; cell++) {
            s.due("cell(6, " + cell + ")", x.cell(6, cell), 50 + cell);
            s.due("cell(7, " + cell + ")", x.cell(7, cell), 50 + cell);
            s.due("cell(4, " + cell + ")", x.cell(4, cell), cell < 12 ? 0 : 50 + cell);
        }
        act("copyBank(6, 1)", y -> y.copyBank(6, 1));
        s.says("- `from`: 0 to 7");
        FarBanks z = new FarBanks();
        z.put(0, 0, 1);
        z.put(7, 0, 2);
        s.range("copyBank(from, 3)", 0, 7, FarBanks.UNKNOWN, from -> z.copyBank(from, 3));
        s.due("cell(3, 0)", z.cell(3, 0), 2);
        s.says("- `to`: 0 to 7");
        s.range("copyBank(5, to)", 0, 7, FarBanks.UNKNOWN, to -> z.copyBank(5, to));
        s.due("cell(0, 0)", z.cell(0, 0), 0);
        s.due("cell(7, 0)", z.cell(7, 0), 0);
        copyBankAnswers();
    }

    private void copyBankAnswers() {
        s.says("Returns how many cells have another number then;");
        FarBanks x = new FarBanks();
        x.put(0, 0, 5);
        x.put(0, 11, 6);
        x.put(0, 12, 7);
        x.put(1, 0, 5);
        x.put(1, 3, 4);
        s.due("copyBank(0, 1) of a cell more and a cell less", x.copyBank(0, 1), 2);
        s.due("copyBank(2, 1) of an empty bank", x.copyBank(2, 1), 2);
        s.says("UNKNOWN (from or to);");
        s.due("copyBank(8, 1)", x.copyBank(8, 1), FarBanks.UNKNOWN);
        s.due("copyBank(0, 8)", x.copyBank(0, 8), FarBanks.UNKNOWN);
        s.due("copyBank(-1, -1)", x.copyBank(-1, -1), FarBanks.UNKNOWN);
        s.says("NONE if none has.");
        s.due("copyBank(2, 1) again", x.copyBank(2, 1), FarBanks.NONE);
        s.due("copyBank(0, 0)", x.copyBank(0, 0), FarBanks.NONE);
        s.due("count(10)", x.count(10), 4);
    }

    private void set() {
        s.section("## Promise 6: set");
        s.says("Sets the setting 0.");
        FarBanks x = new FarBanks();
        x.set(1);
        s.due("count(9)", x.count(9), 1);
        x.set(0);
        s.due("count(9)", x.count(9), 0);
        act("set", y -> y.set(1 - y.count(9)));
        s.says("- `strict`: 0 or 1");
        x.set(1);
        s.range("set", 0, 1, FarBanks.BAD_VALUE, x::set);
        s.says("Returns the previous value;");
        s.due("set(0)", x.set(0), 1);
        s.due("set(1)", x.set(1), 0);
        s.says("BAD_VALUE;");
        s.due("set(2)", x.set(2), FarBanks.BAD_VALUE);
        s.due("set(-1)", x.set(-1), FarBanks.BAD_VALUE);
        s.says(SAME);
        s.due("set(1)", x.set(1), FarBanks.NONE);
        s.due("set(0) at first", new FarBanks().set(0), FarBanks.NONE);
    }

    private void begin() {
        s.section("## Promise 7: begin");
        s.says("Begins anew at a place: the machine runs, its number is 0, and it has no frames;");
        FarBanks x = Told.busy();
        x.run(9);
        s.due("reason ahead of it", x.count(3), 2);
        s.due("number ahead of it", x.count(0), 9);
        x.begin(17);
        s.due("place", x.count(1), 17);
        s.due("reason", x.count(3), 0);
        s.due("number", x.count(0), 0);
        FarBanks y = Told.busy();
        s.due("frames ahead of it", y.count(2), 2);
        y.begin(17);
        s.due("frames", y.count(2), 0);
        s.due("frame(0, 0)", y.frame(0, 0), FarBanks.NONE);
        s.due("bank(0, 3)", y.bank(0, 3), 0);
        s.due("run(1)", y.run(1), 1);
        for (int reason = 1; reason <= 6; reason++) {
            FarBanks stopped = Told.stopped(reason);
            stopped.begin(8);
            s.due("reason behind the reason " + reason, stopped.count(3), 0);
            s.due("frames behind the reason " + reason, stopped.count(2), 0);
        }
        s.says("banks, windows, the latest steps and all that is counted stay.");
        FarBanks z = Told.busy();
        FarBanks same = Told.busy();
        z.begin(17);
        // The number, the place, how many frames there are, and three numbers of two frames.
        s.due("differences behind it", Told.differences(z, same), 3 + 6);
        act("begin(5)", w -> w.begin(5));
    }

    private void beginAnswers() {
        s.says("- `place`: 0 to 63");
        FarBanks x = new FarBanks();
        s.range("begin", 0, 63, FarBanks.UNKNOWN, x::begin);
        s.due("place", x.count(1), 63);
        s.says("Returns the previous place,");
        s.due("begin(9)", x.begin(9), 63);
        s.due("begin(9) again", x.begin(9), 9);
        s.due("begin(0)", x.begin(0), 9);
        x.run(1);
        s.due("begin(63) behind a halt", x.begin(63), 1);
        s.says("64 if it had run out of the windows;");
        x.put(0, 15, 901);
        x.run(9);
        s.due("begin(0)", x.begin(0), 64);
        s.due("begin(0) again", x.begin(0), 0);
        s.says("UNKNOWN.");
        s.due("begin(64)", x.begin(64), FarBanks.UNKNOWN);
        s.due("begin(-1)", x.begin(-1), FarBanks.UNKNOWN);
    }

    private void run() {
        s.section("## Promise 8: run");
        s.says("Runs some steps, or as many as it takes until the machine stops.");
        FarBanks x = new FarBanks();
        s.code(x, 0, 0, "plus 1;plus 1;plus 1;plus 1;halt");
        s.due("run(3)", x.run(3), 3);
        s.due("number behind 3 steps", x.count(0), 3);
        s.due("reason behind 3 steps", x.count(3), 0);
        s.due("run(2), of which the second stops", x.run(2), 2);
        s.due("number behind 5 steps", x.count(0), 4);
        s.due("reason behind 5 steps", x.count(3), 1);
        x.begin(0);
        s.due("run(6) of 5 steps", x.run(6), 5);
        s.due("reason of run(6)", x.count(3), 1);
        act("run(1)", y -> y.run(1));
        s.says("- `steps`: 1 to 999");
        FarBanks z = new FarBanks();
        z.put(0, 0, 400);
        s.range("run", 1, 999, FarBanks.BAD_VALUE, z::run);
        s.due("count(4)", z.count(4), 1000);
    }

    private void runAnswers() {
        s.says("Returns how many steps were taken;");
        FarBanks x = new FarBanks();
        x.put(0, 0, 400);
        s.due("run(1)", x.run(1), 1);
        s.due("run(999)", x.run(999), 999);
        x.put(0, 0, 905);
        s.due("run(999) of a plus and a halt", x.run(999), 2);
        s.due("count(4)", x.count(4), 1002);
        s.says("BAD_VALUE;");
        s.due("run(0)", x.run(0), FarBanks.BAD_VALUE);
        s.due("run(1000)", x.run(1000), FarBanks.BAD_VALUE);
        s.says("NOT_POSSIBLE if it has stopped;");
        for (int reason = 1; reason <= 6; reason++) {
            s.due("run(1) behind the reason " + reason, Told.stopped(reason).run(1), FarBanks.NOT_POSSIBLE);
        }
        s.due("run(1)", x.run(1), FarBanks.NOT_POSSIBLE);
        s.due("run(999)", x.run(999), FarBanks.NOT_POSSIBLE);
        s.says("FULL if more than 999999 steps could have been taken so far then.");
        // Only an object that is used for longer than the document promises comes so far.
        FarBanks y = new FarBanks();
        y.put(0, 0, 400);
        for (int run = 0; run < 1000; run++) {
            y.run(999);
        }
        s.due("count(4)", y.count(4), 999000);
        s.due("run(998)", y.run(998), 998);
        s.due("run(2)", y.run(2), FarBanks.FULL);
        s.due("run(999)", y.run(999), FarBanks.FULL);
        s.due("run(1)", y.run(1), 1);
        y.put(0, 0, 0);
        s.due("run(1), which would be the one too many", y.run(1), FarBanks.FULL);
        s.due("undo()", y.undo(), 3);
        s.due("undo()", y.undo(), 2);
        s.due("run(2), of which one would stop it", y.run(2), FarBanks.FULL);
        y.put(0, 0, 0);
        s.due("run(1) of a halt", y.run(1), 1);
        s.due("run(999) of a machine that has stopped", y.run(999), FarBanks.NOT_POSSIBLE);
    }

    private void type() {
        s.section("## Promise 9: type");
        s.says("Types a character behind the text.");
        FarBanks x = new FarBanks();
        s.typeText(x, "load 12");
        x.assemble(0, 0);
        s.due("cell(0, 0)", x.cell(0, 0), 112);
        s.says("- `character`: any character");
        FarBanks y = new FarBanks();
        char[] any = {(char) 0, (char) 127, (char) 128, (char) 255, (char) 256, (char) 55296, (char) 65535};
        for (int index = 0; index < any.length; index++) {
            s.due("type((char) " + (int) any[index] + ")", y.type(any[index]), index + 1);
        }
        s.due("assemble(0, 0)", y.assemble(0, 0), -100);
        s.says("Returns the length of the text then;");
        for (int length = any.length + 1; length <= 80; length++) {
            s.due("type", y.type('x'), length);
        }
        s.says("FULL if it has 80 characters.");
        s.due("type", y.type('x'), FarBanks.FULL);
        s.due("type of a ;", y.type(';'), FarBanks.FULL);
        s.due("count(11)", y.count(11), 80);
    }

    private void clearText() {
        s.section("## Promise 10: clearText");
        s.says("Empties the text.");
        FarBanks x = new FarBanks();
        s.typeText(x, "load 12");
        x.clearText();
        s.due("count(11)", x.count(11), 0);
        s.due("assemble(0, 0)", x.assemble(0, 0), -100);
        s.due("type", x.type('b'), 1);
        s.says("Returns the length that it had.");
        s.due("clearText()", x.clearText(), 1);
        s.due("clearText() of the empty text", x.clearText(), 0);
        s.typeText(x, "x".repeat(80));
        s.due("clearText() of a full text", x.clearText(), 80);
    }

    private void assemble() {
        s.section("## Promise 11: assemble");
        s.says("Puts the code of the text, which stays, into cells of a bank, one order behind the other.");
        FarBanks x = new FarBanks();
        x.lock(4, true);
        x.put(4, 9, 9);
        x.put(4, 13, 13);
        s.code(x, 4, 10, "plus 1;plus 2;plus 3");
        int[] due = {9, 901, 902, 903, 13};
        for (int index = 0; index < due.length; index++) {
            s.due("cell(4, " + (index + 9) + ")", x.cell(4, index + 9), due[index]);
        }
        s.due("cell(3, 11)", x.cell(3, 11), 0);
        s.due("cell(3, 12), of the common part", x.cell(3, 12), 903);
        s.due("count(11)", x.count(11), 20);
        s.due("assemble(5, 0) of the text that stays", x.assemble(5, 0), 3);
        act("assemble(0, 0)", y -> y.assemble(0, 0));
        s.says(BANK);
        FarBanks z = new FarBanks();
        s.typeText(z, "back");
        s.range("assemble(bank, 1)", 0, 7, FarBanks.UNKNOWN, bank -> z.assemble(bank, 1));
        s.due("cell(0, 1)", z.cell(0, 1), 800);
        s.due("cell(7, 1)", z.cell(7, 1), 800);
        s.says("- `cell`: 0 to 15: the cell of the first order");
        s.range("assemble(2, cell)", 0, 15, FarBanks.UNKNOWN, cell -> z.assemble(2, cell));
        s.due("cell(2, 0)", z.cell(2, 0), 800);
        s.due("cell(2, 15)", z.cell(2, 15), 800);
        s.due("cell(2, 1)", z.cell(2, 1), 0);
    }

    private void assembleAnswers() {
        s.says("Returns how many orders there are;");
        FarBanks x = new FarBanks();
        String sixteen = "halt" + ";back".repeat(15);
        for (int orders = 1; orders <= 16; orders++) {
            s.code(new FarBanks(), 0, 16 - orders, sixteen.substring(0, orders * 5 - 1));
        }
        s.says("UNKNOWN (bank or cell);");
        s.due("assemble(8, 0)", x.assemble(8, 0), FarBanks.UNKNOWN);
        s.due("assemble(0, 16)", x.assemble(0, 16), FarBanks.UNKNOWN);
        s.due("assemble(-1, -1)", x.assemble(-1, -1), FarBanks.UNKNOWN);
        s.says("-100 minus the fault of the text if it has one (which is an error);");
        s.due("assemble(0, 0) of the empty text", x.assemble(0, 0), -100);
        s.typeText(x, "load 1;load x");
        s.due("assemble(0, 0)", x.assemble(0, 0), -112);
        s.due("cell(0, 0): nothing is put", x.cell(0, 0), 0);
        s.typeText(x, "halt" + ";back".repeat(15) + "s");
        s.due("assemble(0, 0) of the largest fault but one", x.assemble(0, 0), -179);
        s.typeText(x, "halt" + ";back".repeat(15) + ";");
        s.due("assemble(0, 0) of the largest fault", x.assemble(0, 0), -180);
        s.due("count(10)", x.count(10), 0);
        s.says("FULL if they do not end within the cell 15.");
        FarBanks y = new FarBanks();
        s.typeText(y, "plus 1;plus 2");
        s.due("assemble(0, 15)", y.assemble(0, 15), FarBanks.FULL);
        s.due("cell(0, 15): nothing is put", y.cell(0, 15), 0);
        s.due("assemble(0, 14)", y.assemble(0, 14), 2);
        s.due("cell(0, 15)", y.cell(0, 15), 902);
        s.typeText(y, sixteen);
        s.due("assemble(0, 1) of 16 orders", y.assemble(0, 1), FarBanks.FULL);
        s.due("assemble(0, 0) of 16 orders", y.assemble(0, 0), 16);
        s.due("cell(0, 15)", y.cell(0, 15), 800);
    }

    private void undo() {
        s.section("## Promise 12: undo");
        s.says("Removes and restores the latest state of the history.");
        FarBanks x = new FarBanks();
        x.put(0, 0, 1);
        x.put(0, 0, 2);
        x.undo();
        s.due("cell(0, 0)", x.cell(0, 0), 1);
        s.due("count(10)", x.count(10), 1);
        x.undo();
        s.due("cell(0, 0)", x.cell(0, 0), 0);
        s.due("count(10)", x.count(10), 0);
        s.says("Returns the number of states that are left;");
        for (int number = 1; number <= 5; number++) {
            x.put(0, 0, number);
        }
        for (int left = 3; left >= 0; left--) {
            s.due("undo()", x.undo(), left);
        }
        s.says("NONE if the history is empty.");
        s.due("undo()", x.undo(), FarBanks.NONE);
        s.due("undo() at first", new FarBanks().undo(), FarBanks.NONE);
    }

    private void keep() {
        s.section("## Promise 13: keep");
        s.says("Takes a snapshot of the state, in place of the one that was.");
        FarBanks x = new FarBanks();
        x.put(0, 1, 5);
        x.keep();
        x.put(0, 1, 6);
        x.keep();
        x.put(0, 1, 7);
        x.restore();
        s.due("cell(0, 1)", x.cell(0, 1), 6);
        s.due("count(10): it is no act", x.count(10), 4);
        s.says("Returns the place of the machine.");
        s.due("keep() at the smallest place", x.keep(), 0);
        x.begin(63);
        s.due("keep()", x.keep(), 63);
        x.run(1);
        s.due("keep() out of the windows", x.keep(), 64);
    }

    private void restore() {
        s.section("## Promise 14: restore");
        s.says("Restores the state of the snapshot, which stays.");
        FarBanks x = new FarBanks();
        x.put(0, 1, 5);
        x.keep();
        for (int number = 6; number < 9; number++) {
            x.put(0, 1, number);
            x.restore();
            s.due("cell(0, 1)", x.cell(0, 1), 5);
        }
        act("restore()", FarBanks::restore);
        s.says("Returns the place of the machine then;");
        x.begin(40);
        s.due("restore()", x.restore(), 0);
        x.begin(63);
        x.run(1);
        x.keep();
        x.begin(2);
        s.due("restore() out of the windows", x.restore(), 64);
        s.says("NONE if there is no snapshot.");
        FarBanks y = new FarBanks();
        s.due("restore() at first", y.restore(), FarBanks.NONE);
        s.due("count(10)", y.count(10), 0);
        y.put(0, 0, 1);
        s.due("restore() behind an act", y.restore(), FarBanks.NONE);
    }
}
