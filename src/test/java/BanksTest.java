/** Promises 1 to 6: a new object, put, lock, show, copyBank, set. */
final class BanksTest {
    private static final Check CHECK = new Check();

    public static void main(String[] args) {
        newObject();
        put();
        putIntoCommonPart();
        lock();
        show();
        copyBank();
        set();
        CHECK.close();
    }

    private static void newObject() {
        CHECK.promise("Promise 1");
        FarBanks x = new FarBanks();
        for (int bank = 0; bank < 8; bank++) {
            for (int cell = 0; cell < 16; cell++) {
                CHECK.due("cell(" + bank + ", " + cell + ")", x.cell(bank, cell), 0);
            }
            for (int what = 0; what < 6; what++) {
                int due = what == 1 && bank < 4 ? 1 << bank : 0;
                CHECK.due("bank(" + bank + ", " + what + ")", x.bank(bank, what), due);
            }
        }
        for (int window = 0; window < 4; window++) {
            CHECK.due("window(" + window + ")", x.window(window), window);
        }
        for (int what = 0; what < 12; what++) {
            CHECK.due("count(" + what + ")", x.count(what), 0);
        }
        CHECK.due("frame(0, 0)", x.frame(0, 0), FarBanks.NONE);
        CHECK.due("latest(0, 0)", x.latest(0, 0), FarBanks.NONE);
        CHECK.due("undo()", x.undo(), FarBanks.NONE);
        CHECK.due("restore()", x.restore(), FarBanks.NONE);
        CHECK.due("run(1)", x.run(1), 1);
        CHECK.due("count(3) of a halt", x.count(3), 1);
    }

    private static void put() {
        CHECK.promise("Promise 2");
        FarBanks x = new FarBanks();
        CHECK.due("put(0, 0, 0)", x.put(0, 0, 0), FarBanks.NONE);
        CHECK.due("count(10) behind NONE", x.count(10), 0);
        CHECK.due("put(7, 11, 999)", x.put(7, 11, 999), 0);
        CHECK.due("put(7, 11, 999) again", x.put(7, 11, 999), FarBanks.NONE);
        CHECK.due("put(7, 11, 5)", x.put(7, 11, 5), 999);
        CHECK.due("cell(7, 11)", x.cell(7, 11), 5);
        CHECK.due("cell(6, 11)", x.cell(6, 11), 0);
        CHECK.due("cell(7, 10)", x.cell(7, 10), 0);
        CHECK.due("count(10)", x.count(10), 2);
        CHECK.due("put(-1, 0, 1)", x.put(-1, 0, 1), FarBanks.UNKNOWN);
        CHECK.due("put(8, 0, 1)", x.put(8, 0, 1), FarBanks.UNKNOWN);
        CHECK.due("put(0, -1, 1)", x.put(0, -1, 1), FarBanks.UNKNOWN);
        CHECK.due("put(0, 16, 1)", x.put(0, 16, 1), FarBanks.UNKNOWN);
        CHECK.due("put(8, 0, 1000)", x.put(8, 0, 1000), FarBanks.UNKNOWN);
        CHECK.due("put(0, 0, 1000)", x.put(0, 0, 1000), FarBanks.BAD_VALUE);
        CHECK.due("put(0, 0, -1)", x.put(0, 0, -1), FarBanks.BAD_VALUE);
        CHECK.due("put of far arguments", x.put(Integer.MIN_VALUE, Integer.MAX_VALUE, 0), FarBanks.UNKNOWN);
        CHECK.due("put(0, 0, MAX_VALUE)", x.put(0, 0, Integer.MAX_VALUE), FarBanks.BAD_VALUE);
        CHECK.due("count(10) behind errors", x.count(10), 2);
        CHECK.due("lock(3, true)", x.lock(3, true), 1);
        CHECK.due("put(3, 0, 7) into a bank that can be read alone", x.put(3, 0, 7), 0);
        CHECK.due("cell(3, 0)", x.cell(3, 0), 7);
        CHECK.due("count(6)", x.count(6), 0);
        CHECK.due("count(7)", x.count(7), 0);
    }

    private static void putIntoCommonPart() {
        CHECK.promise("Promise 2");
        FarBanks x = new FarBanks();
        CHECK.due("lock(5, true)", x.lock(5, true), 1);
        CHECK.due("put(2, 12, 120)", x.put(2, 12, 120), 0);
        CHECK.due("put(5, 15, 150)", x.put(5, 15, 150), 0);
        for (int bank = 0; bank < 8; bank++) {
            CHECK.due("cell(" + bank + ", 12)", x.cell(bank, 12), 120);
            CHECK.due("cell(" + bank + ", 15)", x.cell(bank, 15), 150);
            CHECK.due("cell(" + bank + ", 11)", x.cell(bank, 11), 0);
            CHECK.due("cell(" + bank + ", 13)", x.cell(bank, 13), 0);
        }
        CHECK.due("put(6, 12, 120)", x.put(6, 12, 120), FarBanks.NONE);
        CHECK.due("put(7, 12, 1)", x.put(7, 12, 1), 120);
    }

    private static void lock() {
        CHECK.promise("Promise 3");
        FarBanks x = new FarBanks();
        CHECK.due("lock(0, false)", x.lock(0, false), FarBanks.NONE);
        CHECK.due("lock(0, true)", x.lock(0, true), 1);
        CHECK.due("lock(7, true)", x.lock(7, true), 2);
        CHECK.due("lock(7, true) again", x.lock(7, true), FarBanks.NONE);
        CHECK.due("count(10)", x.count(10), 2);
        CHECK.due("bank(7, 0)", x.bank(7, 0), 1);
        CHECK.due("lock(0, false)", x.lock(0, false), 1);
        CHECK.due("bank(0, 0)", x.bank(0, 0), 0);
        CHECK.due("lock(7, false)", x.lock(7, false), 0);
        CHECK.due("lock(8, true)", x.lock(8, true), FarBanks.UNKNOWN);
        CHECK.due("lock(-1, false)", x.lock(-1, false), FarBanks.UNKNOWN);
        CHECK.due("count(10)", x.count(10), 4);
    }

    private static void show() {
        CHECK.promise("Promise 4");
        FarBanks x = new FarBanks();
        CHECK.due("show(3, 3)", x.show(3, 3), FarBanks.NONE);
        CHECK.due("show(3, 7)", x.show(3, 7), 3);
        CHECK.due("show(3, 0)", x.show(3, 0), 7);
        CHECK.due("window(3)", x.window(3), 0);
        CHECK.due("window(0)", x.window(0), 0);
        CHECK.due("show(4, 0)", x.show(4, 0), FarBanks.UNKNOWN);
        CHECK.due("show(-1, 0)", x.show(-1, 0), FarBanks.UNKNOWN);
        CHECK.due("show(0, 8)", x.show(0, 8), FarBanks.UNKNOWN);
        CHECK.due("show(0, -1)", x.show(0, -1), FarBanks.UNKNOWN);
        CHECK.due("count(10)", x.count(10), 2);
    }

    private static void copyBank() {
        CHECK.promise("Promise 5");
        FarBanks x = new FarBanks();
        CHECK.due("copyBank(0, 1)", x.copyBank(0, 1), FarBanks.NONE);
        x.put(0, 0, 1);
        x.put(0, 11, 2);
        x.put(0, 12, 3);
        x.put(1, 0, 1);
        x.put(1, 5, 4);
        x.lock(1, true);
        CHECK.due("copyBank(0, 1)", x.copyBank(0, 1), 2);
        CHECK.due("cell(1, 0)", x.cell(1, 0), 1);
        CHECK.due("cell(1, 5)", x.cell(1, 5), 0);
        CHECK.due("cell(1, 11)", x.cell(1, 11), 2);
        CHECK.due("cell(0, 11)", x.cell(0, 11), 2);
        CHECK.due("cell(1, 12)", x.cell(1, 12), 3);
        CHECK.due("copyBank(0, 1) again", x.copyBank(0, 1), FarBanks.NONE);
        CHECK.due("copyBank(0, 0)", x.copyBank(0, 0), FarBanks.NONE);
        CHECK.due("copyBank(2, 7)", x.copyBank(2, 7), FarBanks.NONE);
        CHECK.due("copyBank(2, 0)", x.copyBank(2, 0), 2);
        CHECK.due("cell(0, 0)", x.cell(0, 0), 0);
        CHECK.due("cell(0, 12)", x.cell(0, 12), 3);
        CHECK.due("undo()", x.undo(), 3);
        CHECK.due("cell(0, 11)", x.cell(0, 11), 2);
        CHECK.due("copyBank(8, 0)", x.copyBank(8, 0), FarBanks.UNKNOWN);
        CHECK.due("copyBank(-1, 0)", x.copyBank(-1, 0), FarBanks.UNKNOWN);
        CHECK.due("copyBank(0, 8)", x.copyBank(0, 8), FarBanks.UNKNOWN);
        CHECK.due("copyBank(0, -1)", x.copyBank(0, -1), FarBanks.UNKNOWN);
        CHECK.due("copyBank(8, 8)", x.copyBank(8, 8), FarBanks.UNKNOWN);
        CHECK.due("count(10)", x.count(10), 3);
    }

    private static void set() {
        CHECK.promise("Promise 6");
        FarBanks x = new FarBanks();
        CHECK.due("set(0)", x.set(0), FarBanks.NONE);
        CHECK.due("set(1)", x.set(1), 0);
        CHECK.due("set(1) again", x.set(1), FarBanks.NONE);
        CHECK.due("count(9)", x.count(9), 1);
        CHECK.due("set(2)", x.set(2), FarBanks.BAD_VALUE);
        CHECK.due("set(-1)", x.set(-1), FarBanks.BAD_VALUE);
        CHECK.due("set(0)", x.set(0), 1);
        CHECK.due("count(9)", x.count(9), 0);
        CHECK.due("count(10)", x.count(10), 2);
    }
}
