/** What the document says of promises 15 to 24: what is told. */
final class ToldSentences {
    private static final String BANK = "- `bank`: 0 to 7";
    private static final String NUMBER = "Returns the number;";
    private static final String BAD_RANK = "BAD_VALUE (rank is negative, or what);";
    private static final String NOT_SO_MANY = "NONE if there are not so many.";

    private final Sentences s;

    private ToldSentences(Sentences sentences) {
        s = sentences;
    }

    static void test(Sentences sentences) {
        ToldSentences told = new ToldSentences(sentences);
        told.cell();
        told.address();
        told.otherAddresses();
        told.addressAnswers();
        told.bank();
        told.bankAccounts();
        told.bankAnswers();
        told.window();
        told.frame();
        told.latest();
        told.latestAnswers();
        told.next();
        told.nextAnswers();
        told.ifRun();
        told.ifRunCells();
        told.ifRunAnswers();
        told.backIn();
        told.backInAnswers();
        told.countOfMachine();
        told.countSoFar();
        told.countOfTheRest();
    }

    private void cell() {
        s.section("## Promise 15: cell");
        FarBanks x = new FarBanks();
        x.put(0, 0, 1);
        x.put(7, 0, 2);
        x.put(7, 11, 999);
        x.put(7, 15, 4);
        s.says(BANK);
        s.range("cell(bank, 0)", 0, 7, FarBanks.UNKNOWN, bank -> x.cell(bank, 0));
        s.says("- `cell`: 0 to 15");
        s.range("cell(7, cell)", 0, 15, FarBanks.UNKNOWN, cell -> x.cell(7, cell));
        s.says("Returns its number;");
        s.due("cell(0, 0)", x.cell(0, 0), 1);
        s.due("cell(7, 0)", x.cell(7, 0), 2);
        s.due("cell(7, 11)", x.cell(7, 11), 999);
        s.due("cell(0, 11)", x.cell(0, 11), 0);
        s.due("cell(0, 15)", x.cell(0, 15), 4);
        s.says("UNKNOWN (bank or cell).");
        s.due("cell(8, 0)", x.cell(8, 0), FarBanks.UNKNOWN);
        s.due("cell(0, 16)", x.cell(0, 16), FarBanks.UNKNOWN);
        s.due("cell(-1, 15), of the common part", x.cell(-1, 15), FarBanks.UNKNOWN);
        s.due("cell(8, 15), of the common part", x.cell(8, 15), FarBanks.UNKNOWN);
        s.due("cell(1, -1)", x.cell(1, -1), FarBanks.UNKNOWN);
    }

    private void address() {
        s.section("## Promise 16: address");
        FarBanks x = new FarBanks();
        x.show(0, 7);
        x.show(3, 0);
        x.put(7, 0, 70);
        x.put(0, 11, 11);
        x.put(1, 15, 15);
        s.says("- `address`: 0 to 63");
        s.range("address(address, 1)", 0, 63, FarBanks.UNKNOWN, address -> x.address(address, 1));
        s.says("- `what`: 0 for its number,");
        s.due("address(0, 0)", x.address(0, 0), 70);
        s.due("address(59, 0)", x.address(59, 0), 11);
        s.due("address(63, 0)", x.address(63, 0), 15);
        s.due("address(1, 0)", x.address(1, 0), 0);
        s.says("1 for its bank,");
        s.due("address(0, 1)", x.address(0, 1), 7);
        s.due("address(15, 1), of the common part", x.address(15, 1), 7);
        s.due("address(16, 1)", x.address(16, 1), 1);
        s.due("address(63, 1)", x.address(63, 1), 0);
        s.says("2 for its cell,");
        s.due("address(0, 2)", x.address(0, 2), 0);
        s.due("address(15, 2)", x.address(15, 2), 15);
        s.due("address(16, 2)", x.address(16, 2), 0);
        s.due("address(63, 2)", x.address(63, 2), 15);
    }

    private void otherAddresses() {
        s.says("3 for the addresses besides it that show the same number in any case: "
            + "the lowest other one of the same cell of the same bank,");
        FarBanks x = new FarBanks();
        x.show(1, 3);
        s.due("address(27, 3) of two", x.address(27, 3), 59);
        s.due("address(59, 3) of two", x.address(59, 3), 27);
        x.show(0, 3);
        x.show(2, 3);
        s.due("address(0, 3) of four", x.address(0, 3), 16);
        s.due("address(16, 3) of four", x.address(16, 3), 0);
        s.due("address(32, 3) of four", x.address(32, 3), 0);
        s.due("address(59, 3) of four", x.address(59, 3), 11);
        s.says("or, for the common part, of the same cell");
        FarBanks y = new FarBanks();
        for (int cell = 12; cell < 16; cell++) {
            s.due("address(" + cell + ", 3)", y.address(cell, 3), cell + 16);
            s.due("address(" + (cell + 16) + ", 3)", y.address(cell + 16, 3), cell);
            s.due("address(" + (cell + 48) + ", 3)", y.address(cell + 48, 3), cell);
        }
        s.says("(NONE without one)");
        y.put(0, 11, 5);
        y.put(1, 11, 5);
        s.due("address(11, 3), with the same number at 27", y.address(11, 3), FarBanks.NONE);
        s.due("address(0, 3)", y.address(0, 3), FarBanks.NONE);
        s.due("address(59, 3)", y.address(59, 3), FarBanks.NONE);
        x.show(3, 0);
        s.due("address(59, 3) with the bank of no other window", x.address(59, 3), FarBanks.NONE);
    }

    private void addressAnswers() {
        s.says(NUMBER);
        FarBanks x = new FarBanks();
        x.put(0, 0, 999);
        s.due("address(0, 0)", x.address(0, 0), 999);
        s.says("UNKNOWN;");
        s.due("address(64, 0)", x.address(64, 0), FarBanks.UNKNOWN);
        s.due("address(-1, 3)", x.address(-1, 3), FarBanks.UNKNOWN);
        s.due("address(64, 4)", x.address(64, 4), FarBanks.UNKNOWN);
        s.says("BAD_VALUE.");
        s.range("address(15, what)", 0, 3, FarBanks.BAD_VALUE, what -> x.address(15, what));
    }

    private void bank() {
        s.section("## Promise 17: bank");
        FarBanks x = new FarBanks();
        s.says(BANK);
        s.range("bank(bank, 1)", 0, 7, FarBanks.UNKNOWN, bank -> x.bank(bank, 1));
        s.says("- `what`: 0 for whether it can be read alone (1, otherwise 0),");
        s.due("bank(7, 0)", x.bank(7, 0), 0);
        x.lock(7, true);
        s.due("bank(7, 0)", x.bank(7, 0), 1);
        s.due("bank(6, 0)", x.bank(6, 0), 0);
        s.says("1 for the windows that show it, as a set,");
        int[] windows = {1, 3, 7, 15};
        s.due("bank(6, 1), of no window", x.bank(6, 1), 0);
        for (int window = 0; window < 4; window++) {
            s.due("bank(" + window + ", 1)", x.bank(window, 1), 1 << window);
        }
        for (int window = 0; window < 4; window++) {
            x.show(window, 6);
            s.due("bank(6, 1)", x.bank(6, 1), windows[window]);
        }
        s.due("bank(3, 1), of no window", x.bank(3, 1), 0);
        s.says("2 for its cells below 12 that are not 0,");
        x.put(4, 11, 1);
        x.put(6, 0, 1);
        for (int cell = 15; cell >= 0; cell--) {
            x.put(5, cell, 1);
            s.due("bank(5, 2) from the cell " + cell + " on", x.bank(5, 2), Math.max(12 - cell, 0));
        }
        s.due("bank(4, 2)", x.bank(4, 2), 1);
        s.due("bank(3, 2)", x.bank(3, 2), 0);
        s.says("3 for frames that come back to it,");
        FarBanks y = new FarBanks();
        y.put(0, 0, 777);
        y.put(7, 7, 777);
        s.due("bank(0, 3)", y.bank(0, 3), 0);
        y.run(8);
        s.due("bank(0, 3)", y.bank(0, 3), 1);
        s.due("bank(7, 3)", y.bank(7, 3), 7);
        s.due("bank(1, 3)", y.bank(1, 3), 0);
    }

    private static FarBanks withStoreOf(int bank, boolean alone) {
        FarBanks x = at(0, 332);
        x.show(2, bank);
        x.lock(bank, alone);
        x.run(1);
        return x;
    }

    private void bankAccounts() {
        s.says("4 for numbers written by way of it so far by the running code,");
        FarBanks x = new FarBanks();
        s.code(x, 0, 0, "load 5;store 16;store 16;store 12;store 28;store 63;halt");
        x.put(1, 0, 3);
        x.copyBank(1, 4);
        s.due("bank(1, 4) of a put alone", x.bank(1, 4), 0);
        x.run(2);
        s.due("bank(1, 4)", x.bank(1, 4), 1);
        x.run(1);
        s.due("bank(1, 4), also of the same number", x.bank(1, 4), 2);
        x.run(3);
        s.due("bank(0, 4), of its common part", x.bank(0, 4), 1);
        s.due("bank(1, 4), also of its common part", x.bank(1, 4), 3);
        s.due("bank(3, 4), of its common part", x.bank(3, 4), 1);
        s.due("bank(2, 4), without a store", x.bank(2, 4), 0);
        s.due("bank(7, 4)", withStoreOf(7, false).bank(7, 4), 1);
        s.says("5 for those refused by way of it so far");
        x.lock(1, true);
        x.begin(0);
        x.run(3);
        s.due("bank(1, 5)", x.bank(1, 5), 2);
        s.due("bank(1, 4) stays", x.bank(1, 4), 3);
        s.due("bank(0, 5)", withStoreOf(0, true).bank(0, 5), 1);
        s.due("bank(7, 5)", withStoreOf(7, true).bank(7, 5), 1);
        s.says("(it is the bank of the window, also for the common part)");
        x.run(3);
        s.due("bank(1, 5)", x.bank(1, 5), 3);
        s.due("bank(0, 4)", x.bank(0, 4), 2);
        s.due("bank(0, 5)", x.bank(0, 5), 0);
        s.due("bank(3, 4)", x.bank(3, 4), 2);
    }

    private void bankAnswers() {
        s.says(NUMBER);
        FarBanks x = new FarBanks();
        s.due("bank(3, 1)", x.bank(3, 1), 8);
        s.says("UNKNOWN;");
        s.due("bank(8, 0)", x.bank(8, 0), FarBanks.UNKNOWN);
        s.due("bank(-1, 0)", x.bank(-1, 0), FarBanks.UNKNOWN);
        s.due("bank(8, 6)", x.bank(8, 6), FarBanks.UNKNOWN);
        s.says("BAD_VALUE.");
        s.range("bank(7, what)", 0, 5, FarBanks.BAD_VALUE, what -> x.bank(7, what));
    }

    private void window() {
        s.section("## Promise 18: window");
        FarBanks x = new FarBanks();
        x.show(0, 7);
        x.show(3, 0);
        s.says("- `window`: 0 to 3");
        s.range("window", 0, 3, FarBanks.UNKNOWN, x::window);
        s.says("Returns the bank that it shows;");
        s.due("window(0)", x.window(0), 7);
        s.due("window(1)", x.window(1), 1);
        s.due("window(3)", x.window(3), 0);
        s.says("UNKNOWN.");
        s.due("window(4)", x.window(4), FarBanks.UNKNOWN);
        s.due("window(-1)", x.window(-1), FarBanks.UNKNOWN);
    }

    /** Eight frames of the window 2: the first one of the bank 0 and the place 33, the last one of 7 and 40. */
    private static FarBanks withEightFrames() {
        FarBanks x = new FarBanks();
        x.show(2, 0);
        for (int bank = 0; bank < 8; bank++) {
            x.put(bank, bank, 700 + (bank < 7 ? 11 * (bank + 1) : 8));
        }
        x.begin(32);
        x.run(8);
        return x;
    }

    private void frame() {
        s.section("## Promise 19: frame");
        s.says("Tells a frame.");
        FarBanks x = withEightFrames();
        s.due("frames", x.count(2), 8);
        s.due("frame(3, 1)", x.frame(3, 1), 4);
        s.says("- `rank`: 0 for the latest one, and so on");
        for (int rank = 0; rank < 8; rank++) {
            s.due("frame(" + rank + ", 1)", x.frame(rank, 1), 7 - rank);
        }
        s.says("- `what`: 0 for its window,");
        s.due("frame(0, 0)", x.frame(0, 0), 2);
        s.due("frame(7, 0)", x.frame(7, 0), 2);
        s.says("1 for its bank,");
        s.due("frame(0, 1)", x.frame(0, 1), 7);
        s.due("frame(7, 1)", x.frame(7, 1), 0);
        s.says("2 for its place");
        s.due("frame(0, 2)", x.frame(0, 2), 40);
        s.due("frame(7, 2)", x.frame(7, 2), 33);
        s.says(NUMBER);
        s.due("frame(1, 2)", x.frame(1, 2), 39);
        s.says(BAD_RANK);
        s.range("frame(0, what)", 0, 2, FarBanks.BAD_VALUE, what -> x.frame(0, what));
        s.due("frame(-1, 0)", x.frame(-1, 0), FarBanks.BAD_VALUE);
        s.due("frame(MIN_VALUE, 0)", x.frame(Integer.MIN_VALUE, 0), FarBanks.BAD_VALUE);
        s.due("frame(8, 3)", x.frame(8, 3), FarBanks.BAD_VALUE);
        s.says(NOT_SO_MANY);
        s.due("frame(8, 0)", x.frame(8, 0), FarBanks.NONE);
        s.due("frame(MAX_VALUE, 2)", x.frame(Integer.MAX_VALUE, 2), FarBanks.NONE);
        s.due("frame(0, 0) at first", new FarBanks().frame(0, 0), FarBanks.NONE);
        x.put(0, 8, 800);
        x.run(1);
        s.due("frame(6, 2) behind a back", x.frame(6, 2), 33);
        s.due("frame(7, 2) behind a back", x.frame(7, 2), FarBanks.NONE);
        x.begin(0);
        s.due("frame(0, 2) behind begin", x.frame(0, 2), FarBanks.NONE);
    }

    /** A machine at 16 with the orders 900, 901, .. in the cells of the bank 1. */
    private static FarBanks withOrders() {
        FarBanks x = new FarBanks();
        for (int cell = 0; cell < 16; cell++) {
            x.put(1, cell, 900 + cell);
        }
        x.begin(16);
        return x;
    }

    private void latest() {
        s.section("## Promise 20: latest");
        s.says("Tells the latest steps, of which 12 are kept.");
        FarBanks x = withOrders();
        x.run(11);
        s.due("latest(10, 0) of 11", x.latest(10, 0), 16);
        s.due("latest(11, 0) of 11", x.latest(11, 0), FarBanks.NONE);
        x.run(1);
        s.due("latest(11, 0) of 12", x.latest(11, 0), 16);
        s.due("latest(12, 0) of 12", x.latest(12, 0), FarBanks.NONE);
        x.run(1);
        s.due("latest(11, 0) of 13", x.latest(11, 0), 17);
        s.due("latest(12, 0) of 13", x.latest(12, 0), FarBanks.NONE);
        s.says("- `rank`: 0 for the latest one, and so on");
        for (int rank = 0; rank < 12; rank++) {
            s.due("latest(" + rank + ", 0) of 13", x.latest(rank, 0), 28 - rank);
        }
        x.undo();
        s.due("latest(11, 0) of 12, behind undo()", x.latest(11, 0), 16);
        x.run(5);
        for (int rank = 0; rank < 12; rank++) {
            s.due("latest(" + rank + ", 2) of 17", x.latest(rank, 2), rank == 0 ? 0 : 916 - rank);
        }
    }

    private void latestAnswers() {
        s.says("- `what`: 0 for the address,");
        FarBanks x = withOrders();
        x.put(1, 3, 757);
        x.put(5, 7, 601);
        x.run(5);
        s.due("latest(1, 0)", x.latest(1, 0), 19);
        s.due("latest(0, 0)", x.latest(0, 0), 23);
        s.says("1 for the bank,");
        s.due("latest(1, 1)", x.latest(1, 1), 1);
        s.due("latest(0, 1)", x.latest(0, 1), 5);
        s.says("2 for the order (its number)");
        s.due("latest(1, 2)", x.latest(1, 2), 757);
        x.put(5, 7, 9);
        s.due("latest(0, 2), as it was taken", x.latest(0, 2), 601);
        s.says(NUMBER);
        s.due("latest(4, 2)", x.latest(4, 2), 900);
        s.says(BAD_RANK);
        s.range("latest(0, what)", 0, 2, FarBanks.BAD_VALUE, what -> x.latest(0, what));
        s.due("latest(-1, 0)", x.latest(-1, 0), FarBanks.BAD_VALUE);
        s.due("latest(MIN_VALUE, 0)", x.latest(Integer.MIN_VALUE, 0), FarBanks.BAD_VALUE);
        s.due("latest(12, 3)", x.latest(12, 3), FarBanks.BAD_VALUE);
        s.says(NOT_SO_MANY);
        s.due("latest(4, 0) of 5", x.latest(4, 0), 16);
        s.due("latest(5, 0) of 5", x.latest(5, 0), FarBanks.NONE);
        s.due("latest(MAX_VALUE, 0)", x.latest(Integer.MAX_VALUE, 0), FarBanks.NONE);
        s.due("latest(0, 0) at first", new FarBanks().latest(0, 0), FarBanks.NONE);
    }

    private void comesNext(FarBanks x, int order, int reason, int place) {
        s.due("next(0)", x.next(0), order);
        s.due("next(1) of " + order, x.next(1), reason);
        s.due("next(2) of " + order, x.next(2), place);
        s.due("run(1) of " + order, x.run(1), 1);
        s.due("reason of " + order, x.count(3), reason);
        s.due("place of " + order, x.count(1), place);
    }

    private static FarBanks at(int place, int order) {
        FarBanks x = new FarBanks();
        x.put(place / 16, place % 16, order);
        x.begin(place);
        return x;
    }

    private void next() {
        s.section("## Promise 21: next");
        s.says("Tells what the next step would be, if the machine runs.");
        FarBanks x = Told.busy();
        FarBanks same = Told.busy();
        for (int what = 0; what < 3; what++) {
            s.holds("next(" + what + ")", x.next(what) >= 0);
        }
        s.due("differences behind it", Told.differences(x, same), 0);
        s.says("- `what`: 0 for its order,");
        s.due("next(0) of the smallest one", at(20, 0).next(0), 0);
        s.due("next(0) of the largest one", at(20, 999).next(0), 999);
        s.says("1 for the reason with which it would stop");
        comesNext(at(20, 0), 0, 1, 21);
        FarBanks refused = at(20, 316);
        refused.lock(1, true);
        refused.set(1);
        comesNext(refused, 316, 2, 21);
        comesNext(at(20, 464), 464, 3, 21);
        FarBanks calls = at(20, 714);
        calls.put(1, 4, 714);
        calls.run(8);
        comesNext(calls, 714, 4, 21);
        comesNext(at(20, 800), 800, 5, 21);
        comesNext(at(63, 905), 905, 6, 64);
        s.says("(0 if it would go on),");
        comesNext(at(62, 905), 905, 0, 63);
        comesNext(at(20, 900), 900, 0, 21);
        s.says("2 for the place then");
        comesNext(at(63, 400), 400, 0, 0);
        comesNext(at(63, 463), 463, 0, 63);
        comesNext(at(0, 500), 500, 0, 0);
        comesNext(at(63, 779), 779, 0, 57);
        comesNext(at(15, 905), 905, 0, 16);
        FarBanks back = at(63, 730);
        back.put(3, 0, 899);
        back.run(1);
        comesNext(back, 899, 6, 64);
    }

    private void nextAnswers() {
        s.says(NUMBER);
        FarBanks x = at(5, 463);
        s.due("next(2)", x.next(2), 63);
        s.says("BAD_VALUE;");
        s.range("next", 0, 2, FarBanks.BAD_VALUE, x::next);
        s.says("NONE if it has stopped.");
        for (int reason = 1; reason <= 6; reason++) {
            FarBanks y = Told.stopped(reason);
            for (int what = 0; what < 3; what++) {
                s.due("next(" + what + ") behind the reason " + reason, y.next(what), FarBanks.NONE);
            }
            s.due("next(3) behind the reason " + reason, y.next(3), FarBanks.BAD_VALUE);
            y.begin(1);
            s.due("next(0) of a machine begun anew", y.next(0), 0);
        }
    }

    private void ifRun() {
        s.section("## Promise 22: ifRun");
        s.says("Tells what a run would bring.");
        FarBanks x = Told.busy();
        FarBanks same = Told.busy();
        for (int what = 0; what < 5; what++) {
            s.holds("ifRun(9, " + what + ")", x.ifRun(9, what) >= 0);
        }
        s.due("differences behind it", Told.differences(x, same), 0);
        s.says("- `steps`: 1 to 999");
        FarBanks y = new FarBanks();
        y.put(0, 0, 400);
        s.range("ifRun(steps, 0)", 1, 999, FarBanks.BAD_VALUE, steps -> y.ifRun(steps, 0));
        s.says("- `what`: 0 for how many steps would be taken,");
        s.due("ifRun(1, 0)", y.ifRun(1, 0), 1);
        s.due("ifRun(999, 0)", y.ifRun(999, 0), 999);
        FarBanks z = new FarBanks();
        s.code(z, 0, 0, "load 99;plus 99;call 1 0;halt");
        s.code(z, 1, 0, "call 2 0;halt");
        z.put(2, 0, 800);
        s.due("ifRun(5, 0) of six", z.ifRun(5, 0), 5);
        s.due("ifRun(6, 0) of six", z.ifRun(6, 0), 6);
        s.due("ifRun(7, 0) of six", z.ifRun(7, 0), 6);
        s.says("1 for the reason then (0 if it would run still),");
        s.due("ifRun(5, 1) of six", z.ifRun(5, 1), 0);
        s.due("ifRun(6, 1) of six", z.ifRun(6, 1), 1);
        s.due("ifRun(999, 1) without an end", y.ifRun(999, 1), 0);
        s.due("ifRun(9, 1) out of the windows", at(63, 905).ifRun(9, 1), 6);
        s.says("2 for its number then,");
        s.due("ifRun(1, 2)", z.ifRun(1, 2), 99);
        s.due("ifRun(2, 2)", z.ifRun(2, 2), 198);
        s.due("ifRun(7, 2)", z.ifRun(7, 2), 198);
        s.says("3 for its frames then,");
        int[] frames = {0, 0, 1, 2, 1, 1, 1};
        for (int steps = 1; steps <= frames.length; steps++) {
            s.due("ifRun(" + steps + ", 3)", z.ifRun(steps, 3), frames[steps - 1]);
        }
        s.due("ifRun(9, 3) of a ninth call", at(0, 700).ifRun(9, 3), 8);
    }

    private void ifRunCells() {
        s.says("4 for cells of banks that would be different,");
        FarBanks x = new FarBanks();
        x.show(3, 2);
        s.code(x, 0, 0, "load 1;store 32;store 48;store 16;load 0;store 16;store 11;halt");
        int[] due = {0, 1, 1, 2, 2, 1, 1, 1};
        for (int steps = 1; steps <= due.length; steps++) {
            s.due("ifRun(" + steps + ", 4)", x.ifRun(steps, 4), due[steps - 1]);
        }
        x.lock(2, true);
        s.due("ifRun(9, 4) with refused writes", x.ifRun(9, 4), 0);
        s.due("ifRun(4, 4) with refused writes", x.ifRun(4, 4), 1);
        FarBanks first = at(4, 300);
        first.put(0, 0, 7);
        s.due("ifRun(1, 4) of the first cell", first.ifRun(1, 4), 1);
        FarBanks last = at(4, 363);
        last.put(0, 15, 7);
        s.due("ifRun(1, 4) of the last cell", last.ifRun(1, 4), 1);
        FarBanks seven = at(4, 327);
        seven.put(7, 11, 7);
        seven.show(1, 7);
        s.due("ifRun(1, 4) of the last cell ahead of the common part", seven.ifRun(1, 4), 1);
        s.says("those of the common part counted once");
        FarBanks y = new FarBanks();
        s.code(y, 0, 0, "load 1;store 12;store 28;store 63;store 27");
        int[] common = {0, 1, 1, 2, 3};
        for (int steps = 1; steps <= common.length; steps++) {
            s.due("ifRun(" + steps + ", 4)", y.ifRun(steps, 4), common[steps - 1]);
        }
    }

    private void ifRunAnswers() {
        s.says(NUMBER);
        FarBanks x = at(0, 463);
        s.due("ifRun(999, 0)", x.ifRun(999, 0), 2);
        s.says("BAD_VALUE;");
        s.range("ifRun(1, what)", 0, 4, FarBanks.BAD_VALUE, what -> x.ifRun(1, what));
        s.due("ifRun(0, 0)", x.ifRun(0, 0), FarBanks.BAD_VALUE);
        s.due("ifRun(1000, 0)", x.ifRun(1000, 0), FarBanks.BAD_VALUE);
        s.says("NOT_POSSIBLE if it has stopped.");
        for (int reason = 1; reason <= 6; reason++) {
            s.due("ifRun(1, 0) behind " + reason, Told.stopped(reason).ifRun(1, 0), FarBanks.NOT_POSSIBLE);
        }
        x.run(9);
        s.due("ifRun(1, 0)", x.ifRun(1, 0), FarBanks.NOT_POSSIBLE);
        s.due("ifRun(999, 4)", x.ifRun(999, 4), FarBanks.NOT_POSSIBLE);
        s.due("ifRun(1000, 0)", x.ifRun(1000, 0), FarBanks.BAD_VALUE);
        s.due("ifRun(1, -1)", x.ifRun(1, -1), FarBanks.BAD_VALUE);
    }

    /** A machine whose only frame goes in 501 steps: 166 rounds of three, and the three of the last round. */
    private FarBanks withLongCall() {
        FarBanks x = new FarBanks();
        s.code(x, 1, 0, "plus 1;zero 3;jump 0;back");
        x.put(0, 0, 215);
        x.put(0, 1, 710);
        x.put(0, 15, 833);
        x.run(2);
        return x;
    }

    private void backIn() {
        s.section("## Promise 23: backIn");
        s.says("Tells in how many steps the latest frame goes.");
        FarBanks x = Told.busy();
        FarBanks same = Told.busy();
        s.due("backIn() of two frames", x.backIn(), 2);
        s.due("differences behind it", Told.differences(x, same), 0);
        FarBanks y = new FarBanks();
        s.code(y, 0, 0, "call 1 0;halt");
        s.code(y, 1, 0, "call 2 0;call 2 0;back");
        y.put(2, 0, 800);
        y.run(1);
        s.due("backIn() with two inner calls ahead", y.backIn(), 5);
        y.run(1);
        s.due("backIn() in an inner call", y.backIn(), 1);
        y.run(1);
        s.due("backIn() with one inner call ahead", y.backIn(), 3);
        FarBanks end = at(63, 730);
        end.put(3, 0, 800);
        end.run(1);
        s.due("backIn() of a back that stops the machine behind it", end.backIn(), 1);
    }

    private void backInAnswers() {
        s.says("Returns how many, up to 500;");
        FarBanks x = withLongCall();
        x.run(1);
        s.due("backIn() in 500 steps", x.backIn(), 500);
        s.due("run(500)", x.run(500), 500);
        s.due("frames behind 500 steps", x.count(2), 0);
        FarBanks one = withLongCall();
        one.run(500);
        s.due("backIn() in one step", one.backIn(), 1);
        s.says("NONE if there is none,");
        s.due("backIn() at first", new FarBanks().backIn(), FarBanks.NONE);
        s.due("backIn() ahead of a call", at(0, 700).backIn(), FarBanks.NONE);
        s.due("backIn() at a back without a frame", at(0, 800).backIn(), FarBanks.NONE);
        s.due("backIn() behind the back", x.backIn(), FarBanks.NONE);
        s.says("or it does not go (the machine stops,");
        FarBanks halts = withLongCall();
        halts.put(1, 3, 0);
        halts.run(400);
        s.due("backIn() with a halt ahead", halts.backIn(), FarBanks.NONE);
        halts.run(999);
        halts.put(1, 4, 800);
        s.due("backIn() of a machine that has stopped", halts.backIn(), FarBanks.NONE);
        s.due("backIn() behind a ninth call", Told.stopped(4).backIn(), FarBanks.NONE);
        FarBanks calls = at(0, 700);
        calls.run(1);
        s.due("backIn() with a ninth call ahead", calls.backIn(), FarBanks.NONE);
        s.says("or takes longer).");
        FarBanks longer = withLongCall();
        s.due("backIn() in 501 steps", longer.backIn(), FarBanks.NONE);
        s.due("run(501)", longer.run(501), 501);
        s.due("frames behind 501 steps", longer.count(2), 0);
        FarBanks endless = withLongCall();
        endless.put(1, 0, 400);
        s.due("backIn() without an end", endless.backIn(), FarBanks.NONE);
    }

    private void countOfMachine() {
        s.section("## Promise 24: count");
        s.says("- `what`: 0 for the number of the machine,");
        FarBanks x = at(0, 215);
        s.due("count(0) at first", x.count(0), 0);
        x.put(0, 15, 999);
        x.run(1);
        s.due("count(0)", x.count(0), 999);
        s.says("1 for its place,");
        FarBanks y = at(63, 901);
        s.due("count(1)", y.count(1), 63);
        y.run(1);
        s.due("count(1) out of the windows", y.count(1), 64);
        s.due("count(1) at first", new FarBanks().count(1), 0);
        s.says("2 for its frames (how many),");
        s.due("count(2) at first", y.count(2), 0);
        FarBanks eight = withEightFrames();
        s.due("count(2) at most", eight.count(2), 8);
        eight.put(0, 8, 800);
        eight.run(1);
        s.due("count(2) behind a back", eight.count(2), 7);
        s.says("3 for the reason for which it stopped");
        for (int reason = 1; reason <= 6; reason++) {
            s.due("count(3)", Told.stopped(reason).count(3), reason);
        }
        s.says("(0 if it runs),");
        s.due("count(3)", x.count(3), 0);
        s.due("count(3) with eight frames", withEightFrames().count(3), 0);
        y.begin(63);
        s.due("count(3) of a machine begun anew", y.count(3), 0);
    }

    private void countSoFar() {
        s.says("4 for steps so far,");
        FarBanks x = new FarBanks();
        s.code(x, 0, 0, "load 5;store 16;store 28;store 48;call 1 9");
        x.lock(1, true);
        x.put(1, 9, 774);
        s.due("count(4) at first", x.count(4), 0);
        s.due("run(9)", x.run(9), 7);
        s.due("count(4), also the step that stops", x.count(4), 7);
        x.show(0, 0);
        x.begin(0);
        s.due("count(4) stays behind begin", x.count(4), 7);
        s.due("run(9)", x.run(9), 7);
        s.due("count(4)", x.count(4), 14);
        s.says("5 for calls so far,");
        s.due("count(5)", x.count(5), 4);
        x.put(1, 9, 780);
        x.show(0, 0);
        x.begin(0);
        x.run(9);
        s.due("count(5): one that stops is none", x.count(5), 5);
        s.says("6 for numbers written so far,");
        s.due("count(6)", x.count(6), 3);
        s.due("bank(3, 4)", x.bank(3, 4), 3);
        x.put(3, 0, 9);
        s.due("count(6) stays behind put", x.count(6), 3);
        s.says("7 for writes refused so far,");
        s.due("count(7)", x.count(7), 6);
        s.due("bank(1, 5)", x.bank(1, 5), 6);
        x.undo();
        x.undo();
        s.due("count(4) ahead of the run", x.count(4), 14);
        s.due("count(6) ahead of the run", x.count(6), 2);
        s.due("count(7) ahead of the run", x.count(7), 4);
    }

    private void countOfTheRest() {
        s.says("8 for banks that can be read alone,");
        FarBanks x = new FarBanks();
        for (int bank = 0; bank < 8; bank++) {
            s.due("count(8)", x.count(8), bank);
            x.lock(bank, true);
        }
        s.due("count(8) at most", x.count(8), 8);
        s.says("9 for the setting 0,");
        s.due("count(9) at first", x.count(9), 0);
        x.set(1);
        s.due("count(9)", x.count(9), 1);
        s.says("10 for the states in the history,");
        s.due("count(10) behind nine acts", x.count(10), 4);
        x.undo();
        s.due("count(10) behind undo()", x.count(10), 3);
        s.due("count(10) at first", new FarBanks().count(10), 0);
        s.says("11 for the length of the text");
        for (int length = 0; length < 80; length++) {
            s.due("count(11)", x.count(11), length);
            x.type('x');
        }
        s.due("count(11) at most", x.count(11), 80);
        s.says(NUMBER);
        s.due("count(8)", x.count(8), 8);
        s.says("BAD_VALUE.");
        s.range("count", 0, 11, FarBanks.BAD_VALUE, x::count);
    }
}
