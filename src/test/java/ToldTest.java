/** Promises 15 to 24: what is told. */
final class ToldTest {
    private static final Check CHECK = new Check();

    public static void main(String[] args) {
        cell();
        address();
        addressTwins();
        bank();
        window();
        frame();
        latest();
        next();
        ifRun();
        ifRunCells();
        ifRunFirstCell();
        backIn();
        backInLong();
        count();
        nothingChanges();
        CHECK.close();
    }

    private static void cell() {
        CHECK.promise("Promise 15");
        FarBanks x = new FarBanks();
        x.put(7, 11, 5);
        x.put(7, 15, 6);
        CHECK.due("cell(7, 11)", x.cell(7, 11), 5);
        CHECK.due("cell(0, 15)", x.cell(0, 15), 6);
        CHECK.due("cell(8, 0)", x.cell(8, 0), FarBanks.UNKNOWN);
        CHECK.due("cell(-1, 0)", x.cell(-1, 0), FarBanks.UNKNOWN);
        CHECK.due("cell(0, 16)", x.cell(0, 16), FarBanks.UNKNOWN);
        CHECK.due("cell(0, -1)", x.cell(0, -1), FarBanks.UNKNOWN);
        CHECK.due("cell(-1, 12)", x.cell(-1, 12), FarBanks.UNKNOWN);
    }

    private static void address() {
        CHECK.promise("Promise 16");
        FarBanks x = new FarBanks();
        x.show(3, 7);
        x.put(7, 11, 5);
        x.put(0, 15, 6);
        CHECK.due("address(59, 0)", x.address(59, 0), 5);
        CHECK.due("address(59, 1)", x.address(59, 1), 7);
        CHECK.due("address(59, 2)", x.address(59, 2), 11);
        CHECK.due("address(63, 0)", x.address(63, 0), 6);
        CHECK.due("address(63, 1)", x.address(63, 1), 7);
        CHECK.due("address(63, 2)", x.address(63, 2), 15);
        CHECK.due("address(0, 1)", x.address(0, 1), 0);
        CHECK.due("address(16, 2)", x.address(16, 2), 0);
        CHECK.due("address(-1, 0)", x.address(-1, 0), FarBanks.UNKNOWN);
        CHECK.due("address(64, 0)", x.address(64, 0), FarBanks.UNKNOWN);
        CHECK.due("address(64, 4)", x.address(64, 4), FarBanks.UNKNOWN);
        CHECK.due("address(0, 4)", x.address(0, 4), FarBanks.BAD_VALUE);
        CHECK.due("address(0, -1)", x.address(0, -1), FarBanks.BAD_VALUE);
    }

    private static void addressTwins() {
        CHECK.promise("Promise 16");
        FarBanks x = new FarBanks();
        for (int address = 0; address < 64; address++) {
            int twin = address < 16 ? address + 16 : address % 16;
            int due = address % 16 < 12 ? FarBanks.NONE : twin;
            CHECK.due("address(" + address + ", 3)", x.address(address, 3), due);
        }
        x.show(1, 3);
        CHECK.due("address(27, 3)", x.address(27, 3), 59);
        CHECK.due("address(59, 3)", x.address(59, 3), 27);
        CHECK.due("address(11, 3)", x.address(11, 3), FarBanks.NONE);
        x.show(0, 3);
        CHECK.due("address(0, 3)", x.address(0, 3), 16);
        CHECK.due("address(16, 3)", x.address(16, 3), 0);
        CHECK.due("address(48, 3)", x.address(48, 3), 0);
        CHECK.due("address(32, 3)", x.address(32, 3), FarBanks.NONE);
        CHECK.due("address(44, 3)", x.address(44, 3), 12);
        CHECK.due("address(15, 3)", x.address(15, 3), 31);
    }

    private static void bank() {
        CHECK.promise("Promise 17");
        FarBanks x = new FarBanks();
        CHECK.due("bank(-1, 0)", x.bank(-1, 0), FarBanks.UNKNOWN);
        CHECK.due("bank(8, 6)", x.bank(8, 6), FarBanks.UNKNOWN);
        CHECK.due("bank(7, 6)", x.bank(7, 6), FarBanks.BAD_VALUE);
        CHECK.due("bank(7, -1)", x.bank(7, -1), FarBanks.BAD_VALUE);
        x.show(0, 7);
        x.show(1, 7);
        x.show(3, 7);
        CHECK.due("bank(7, 1)", x.bank(7, 1), 11);
        CHECK.due("bank(0, 1)", x.bank(0, 1), 0);
        CHECK.due("bank(2, 1)", x.bank(2, 1), 4);
        x.put(6, 0, 1);
        x.put(6, 11, 999);
        x.put(6, 12, 3);
        CHECK.due("bank(6, 2)", x.bank(6, 2), 2);
        CHECK.due("bank(5, 2)", x.bank(5, 2), 0);
        x.put(7, 0, 770);
        x.run(3);
        CHECK.due("bank(7, 3)", x.bank(7, 3), 3);
        CHECK.due("bank(0, 3)", x.bank(0, 3), 0);
        CHECK.code(x, 7, 0, "load 1;store 12;store 32;store 63;store 44;halt");
        x.lock(2, true);
        CHECK.due("bank(2, 0)", x.bank(2, 0), 1);
        x.begin(0);
        x.run(9);
        CHECK.due("bank(7, 3) behind begin", x.bank(7, 3), 0);
        CHECK.due("bank(7, 4)", x.bank(7, 4), 2);
        CHECK.due("bank(2, 5)", x.bank(2, 5), 2);
        CHECK.due("bank(2, 4)", x.bank(2, 4), 0);
        CHECK.due("bank(7, 5)", x.bank(7, 5), 0);
    }

    private static void window() {
        CHECK.promise("Promise 18");
        FarBanks x = new FarBanks();
        x.show(2, 0);
        CHECK.due("window(2)", x.window(2), 0);
        CHECK.due("window(3)", x.window(3), 3);
        CHECK.due("window(4)", x.window(4), FarBanks.UNKNOWN);
        CHECK.due("window(-1)", x.window(-1), FarBanks.UNKNOWN);
    }

    private static void frame() {
        CHECK.promise("Promise 19");
        FarBanks x = new FarBanks();
        x.show(1, 4);
        CHECK.code(x, 4, 2, "call 6 0");
        CHECK.code(x, 6, 0, "jump 32");
        CHECK.code(x, 2, 0, "call 2 0");
        x.begin(18);
        x.run(9);
        int[][] due = {{2, 2, 33}, {1, 4, 19}};
        for (int what = 0; what < 3; what++) {
            CHECK.due("frame(0, " + what + ")", x.frame(0, what), due[0][what]);
            CHECK.due("frame(6, " + what + ")", x.frame(6, what), due[0][what]);
            CHECK.due("frame(7, " + what + ")", x.frame(7, what), x.count(2) == 8 ? due[1][what] : FarBanks.NONE);
        }
        CHECK.due("count(2)", x.count(2), 8);
        CHECK.due("frame(8, 0)", x.frame(8, 0), FarBanks.NONE);
        CHECK.due("frame(MAX_VALUE, 2)", x.frame(Integer.MAX_VALUE, 2), FarBanks.NONE);
        CHECK.due("frame(-1, 0)", x.frame(-1, 0), FarBanks.BAD_VALUE);
        CHECK.due("frame(0, 3)", x.frame(0, 3), FarBanks.BAD_VALUE);
        CHECK.due("frame(0, -1)", x.frame(0, -1), FarBanks.BAD_VALUE);
        CHECK.due("frame(9, 3)", x.frame(9, 3), FarBanks.BAD_VALUE);
    }

    private static void latest() {
        CHECK.promise("Promise 20");
        FarBanks x = new FarBanks();
        for (int cell = 0; cell < 12; cell++) {
            x.put(1, cell, 900 + cell);
        }
        x.put(1, 12, 912);
        x.put(1, 13, 600);
        x.begin(16);
        x.run(12);
        CHECK.due("latest(11, 0)", x.latest(11, 0), 16);
        CHECK.due("latest(12, 0)", x.latest(12, 0), FarBanks.NONE);
        x.run(2);
        for (int rank = 0; rank < 12; rank++) {
            CHECK.due("latest(" + rank + ", 0)", x.latest(rank, 0), 29 - rank);
            CHECK.due("latest(" + rank + ", 1)", x.latest(rank, 1), 1);
            CHECK.due("latest(" + rank + ", 2)", x.latest(rank, 2), rank == 0 ? 600 : 913 - rank);
        }
        CHECK.due("latest(12, 2)", x.latest(12, 2), FarBanks.NONE);
        CHECK.due("latest(MAX_VALUE, 2)", x.latest(Integer.MAX_VALUE, 2), FarBanks.NONE);
        CHECK.due("latest(-1, 0)", x.latest(-1, 0), FarBanks.BAD_VALUE);
        CHECK.due("latest(0, 3)", x.latest(0, 3), FarBanks.BAD_VALUE);
        CHECK.due("latest(99, -1)", x.latest(99, -1), FarBanks.BAD_VALUE);
        x.put(1, 13, 1);
        x.show(1, 5);
        CHECK.due("latest(0, 2): the order as it was taken", x.latest(0, 2), 600);
        CHECK.due("latest(0, 1): the bank as it was shown", x.latest(0, 1), 1);
        x.put(1, 14, 770);
        x.run(1);
        CHECK.due("latest(0, 1) of a call: the bank it left", x.latest(0, 1), 5);
        CHECK.due("latest(0, 0) of a call", x.latest(0, 0), 30);
    }

    private static void next() {
        CHECK.promise("Promise 21");
        FarBanks x = new FarBanks();
        x.put(0, 0, 463);
        x.put(0, 15, 901);
        int[][] due = {{463, 0, 63}, {901, 6, 64}};
        for (int[] row : due) {
            for (int what = 0; what < 3; what++) {
                CHECK.due("next(" + what + ")", x.next(what), row[what]);
            }
            CHECK.due("run(1)", x.run(1), 1);
        }
        CHECK.due("next(0) of a machine that has stopped", x.next(0), FarBanks.NONE);
        CHECK.due("next(3) of a machine that has stopped", x.next(3), FarBanks.BAD_VALUE);
        x.begin(1);
        CHECK.due("next(0)", x.next(0), 0);
        CHECK.due("next(1)", x.next(1), 1);
        CHECK.due("next(2)", x.next(2), 2);
        CHECK.due("next(3)", x.next(3), FarBanks.BAD_VALUE);
        CHECK.due("next(-1)", x.next(-1), FarBanks.BAD_VALUE);
        x.lock(1, true);
        x.set(1);
        x.put(0, 1, 316);
        CHECK.due("next(1) of a write that is refused", x.next(1), 2);
        CHECK.due("count(7): it is only told", x.count(7), 0);
    }

    private static void ifRun() {
        CHECK.promise("Promise 22");
        FarBanks x = new FarBanks();
        CHECK.code(x, 0, 0, "plus 5;call 1 0;halt");
        CHECK.code(x, 1, 0, "plus 6;call 2 0");
        CHECK.code(x, 2, 0, "back");
        int[][] due = {
            {1, 0, 5, 0, 0}, {2, 0, 5, 1, 0}, {3, 0, 11, 1, 0}, {4, 0, 11, 2, 0}, {5, 0, 11, 1, 0}, {6, 1, 11, 1, 0},
            {6, 1, 11, 1, 0}};
        for (int row = 0; row < due.length; row++) {
            for (int what = 0; what < 5; what++) {
                CHECK.due("ifRun(" + (row + 1) + ", " + what + ")", x.ifRun(row + 1, what), due[row][what]);
            }
        }
        CHECK.due("ifRun(999, 0)", x.ifRun(999, 0), 6);
        CHECK.due("ifRun(1000, 0)", x.ifRun(1000, 0), FarBanks.BAD_VALUE);
        CHECK.due("ifRun(0, 0)", x.ifRun(0, 0), FarBanks.BAD_VALUE);
        CHECK.due("ifRun(-1, 0)", x.ifRun(-1, 0), FarBanks.BAD_VALUE);
        CHECK.due("ifRun(1, 5)", x.ifRun(1, 5), FarBanks.BAD_VALUE);
        CHECK.due("ifRun(1, -1)", x.ifRun(1, -1), FarBanks.BAD_VALUE);
        x.run(9);
        CHECK.due("ifRun(1, 0) of a machine that has stopped", x.ifRun(1, 0), FarBanks.NOT_POSSIBLE);
        CHECK.due("ifRun(1, 5) of a machine that has stopped", x.ifRun(1, 5), FarBanks.BAD_VALUE);
        x.put(3, 0, 448);
        x.begin(48);
        CHECK.due("ifRun(999, 0) without an end", x.ifRun(999, 0), 999);
        CHECK.due("ifRun(999, 1) without an end", x.ifRun(999, 1), 0);
    }

    private static void ifRunCells() {
        CHECK.promise("Promise 22");
        FarBanks x = new FarBanks();
        x.show(3, 2);
        CHECK.code(x, 0, 0, "load 1;store 32;store 48;store 12;store 16;load 0;store 16;jump 7");
        int[] due = {0, 1, 1, 2, 3, 3, 2, 2};
        for (int steps = 1; steps <= due.length; steps++) {
            CHECK.due("ifRun(" + steps + ", 4)", x.ifRun(steps, 4), due[steps - 1]);
        }
        x.lock(2, true);
        CHECK.due("ifRun(9, 4) with refused writes", x.ifRun(9, 4), 1);
        x.put(0, 12, 1);
        CHECK.due("ifRun(9, 4) with the same number", x.ifRun(9, 4), 0);
    }

    private static void ifRunFirstCell() {
        CHECK.promise("Promise 22");
        FarBanks x = new FarBanks();
        CHECK.code(x, 0, 0, "load 1;store 0;store 31");
        CHECK.due("ifRun(2, 4)", x.ifRun(2, 4), 1);
        CHECK.due("ifRun(3, 4)", x.ifRun(3, 4), 2);
    }

    private static void backIn() {
        CHECK.promise("Promise 23");
        FarBanks x = new FarBanks();
        CHECK.due("backIn() without a frame", x.backIn(), FarBanks.NONE);
        CHECK.code(x, 0, 0, "call 1 0;halt");
        CHECK.code(x, 1, 0, "call 2 0;back");
        CHECK.code(x, 2, 0, "plus 1;back");
        CHECK.due("backIn() ahead of the call", x.backIn(), FarBanks.NONE);
        x.run(1);
        CHECK.due("backIn() with an inner call ahead", x.backIn(), 4);
        x.run(1);
        CHECK.due("backIn() in the inner call", x.backIn(), 2);
        x.run(1);
        CHECK.due("backIn() at the back", x.backIn(), 1);
        x.run(1);
        CHECK.due("backIn() behind the inner call", x.backIn(), 1);
        CHECK.due("count(2): it is only told", x.count(2), 1);
        x.put(1, 1, 0);
        CHECK.due("backIn() with a halt ahead", x.backIn(), FarBanks.NONE);
        x.run(1);
        CHECK.due("backIn() of a machine that has stopped", x.backIn(), FarBanks.NONE);
        CHECK.due("count(2)", x.count(2), 1);
        x.put(1, 1, 800);
        CHECK.due("backIn() of a machine that has stopped", x.backIn(), FarBanks.NONE);
    }

    private static void backInLong() {
        CHECK.promise("Promise 23");
        FarBanks x = new FarBanks();
        // From 834 on, 165 rounds of three steps and then three steps: 498 behind the jumps.
        CHECK.code(x, 1, 0, "plus 1;zero 3;jump 0;back;add 32;jump 6;jump 7;jump 0");
        x.put(2, 0, 834);
        x.put(0, 0, 714);
        x.run(2);
        CHECK.due("number", x.count(0), 834);
        CHECK.due("backIn() in 501 steps", x.backIn(), FarBanks.NONE);
        x.run(1);
        CHECK.due("backIn() in 500 steps", x.backIn(), 500);
        x.run(1);
        CHECK.due("backIn() in 499 steps", x.backIn(), 499);
        CHECK.due("run(498)", x.run(498), 498);
        CHECK.due("count(2)", x.count(2), 1);
        CHECK.due("run(1)", x.run(1), 1);
        CHECK.due("count(2)", x.count(2), 0);
    }

    private static void count() {
        CHECK.promise("Promise 24");
        FarBanks x = new FarBanks();
        CHECK.due("count(-1)", x.count(-1), FarBanks.BAD_VALUE);
        CHECK.due("count(12)", x.count(12), FarBanks.BAD_VALUE);
        CHECK.code(x, 0, 0, "load 77;store 16;store 32;call 0 4;store 12;halt");
        x.lock(2, true);
        x.lock(5, true);
        x.set(1);
        x.set(0);
        CHECK.due("run(9)", x.run(9), 6);
        int[] due = {77, 6, 1, 1, 6, 1, 2, 1, 2, 0, 4, 48};
        for (int what = 0; what < due.length; what++) {
            CHECK.due("count(" + what + ")", x.count(what), due[what]);
        }
        int written = 0;
        int refused = 0;
        for (int bank = 0; bank < 8; bank++) {
            written += x.bank(bank, 4);
            refused += x.bank(bank, 5);
        }
        CHECK.due("numbers written by way of all banks", written, x.count(6));
        CHECK.due("writes refused by way of all banks", refused, x.count(7));
    }

    private static void nothingChanges() {
        CHECK.promise("Promise 22");
        FarBanks x = new FarBanks();
        CHECK.code(x, 0, 0, "load 1;store 16;show 2 5;call 1 0");
        CHECK.code(x, 1, 0, "back");
        x.run(1);
        x.ifRun(99, 0);
        x.next(1);
        x.next(2);
        CHECK.due("cell(1, 0)", x.cell(1, 0), 800);
        CHECK.due("window(2)", x.window(2), 2);
        int[] due = {1, 1, 0, 0, 1, 0, 0, 0, 0, 0, 3, 4};
        for (int what = 0; what < due.length; what++) {
            CHECK.due("count(" + what + ")", x.count(what), due[what]);
        }
        CHECK.due("latest(1, 0)", x.latest(1, 0), FarBanks.NONE);
    }
}
