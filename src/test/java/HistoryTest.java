/** Promises 12 to 14: undo, keep, restore. */
final class HistoryTest {
    private static final Check CHECK = new Check();

    public static void main(String[] args) {
        undo();
        undoOfEachAct();
        wholeState();
        rowsUsedAgain();
        keep();
        restore();
        CHECK.close();
    }

    private static void undo() {
        CHECK.promise("Promise 12");
        FarBanks x = new FarBanks();
        CHECK.due("undo()", x.undo(), FarBanks.NONE);
        for (int number = 1; number <= 6; number++) {
            x.put(0, 0, number);
            CHECK.due("count(10)", x.count(10), Math.min(number, 4));
        }
        for (int left = 3; left >= 0; left--) {
            CHECK.due("undo()", x.undo(), left);
            CHECK.due("cell(0, 0)", x.cell(0, 0), left + 2);
            CHECK.due("count(10)", x.count(10), left);
        }
        CHECK.due("undo()", x.undo(), FarBanks.NONE);
        CHECK.due("cell(0, 0)", x.cell(0, 0), 2);
        x.put(0, 0, 9);
        CHECK.due("undo() behind another act", x.undo(), 0);
        CHECK.due("cell(0, 0)", x.cell(0, 0), 2);
    }

    private static void undoOfEachAct() {
        CHECK.promise("Promise 12");
        FarBanks x = new FarBanks();
        x.lock(3, true);
        x.show(0, 3);
        x.put(3, 0, 101);
        x.copyBank(3, 4);
        CHECK.due("undo() of copyBank", x.undo(), 3);
        CHECK.due("cell(4, 0)", x.cell(4, 0), 0);
        CHECK.due("undo() of put", x.undo(), 2);
        CHECK.due("cell(3, 0)", x.cell(3, 0), 0);
        CHECK.due("undo() of show", x.undo(), 1);
        CHECK.due("window(0)", x.window(0), 0);
        CHECK.due("undo() of lock", x.undo(), 0);
        CHECK.due("bank(3, 0)", x.bank(3, 0), 0);
        x.set(1);
        x.begin(20);
        x.run(1);
        CHECK.due("undo() of run", x.undo(), 2);
        CHECK.due("count(3)", x.count(3), 0);
        CHECK.due("undo() of begin", x.undo(), 1);
        CHECK.due("count(1)", x.count(1), 0);
        CHECK.due("undo() of set", x.undo(), 0);
        CHECK.due("count(9)", x.count(9), 0);
        x.undo();
        x.keep();
        CHECK.due("count(10): keep is no act", x.count(10), 0);
        x.put(0, 12, 5);
        x.restore();
        CHECK.due("count(10): restore is an act", x.count(10), 2);
        CHECK.due("undo() of restore", x.undo(), 1);
        CHECK.due("cell(0, 12)", x.cell(0, 12), 5);
    }

    private static FarBanks busy() {
        FarBanks x = new FarBanks();
        CHECK.code(x, 0, 0, "load 7;store 12;store 32;call 5 3");
        CHECK.code(x, 5, 3, "call 6 0");
        CHECK.code(x, 6, 0, "plus 2;back");
        x.lock(2, true);
        x.run(6);
        return x;
    }

    private static void tellsBusy(FarBanks x) {
        int[] counts = {9, 1, 2, 0, 6, 2, 1, 1, 1, 0};
        for (int what = 0; what < counts.length; what++) {
            CHECK.due("count(" + what + ")", x.count(what), counts[what]);
        }
        CHECK.due("window(0)", x.window(0), 6);
        CHECK.due("frame(0, 1)", x.frame(0, 1), 5);
        CHECK.due("frame(0, 2)", x.frame(0, 2), 4);
        CHECK.due("frame(1, 1)", x.frame(1, 1), 0);
        CHECK.due("frame(1, 2)", x.frame(1, 2), 4);
        CHECK.due("latest(0, 2)", x.latest(0, 2), 902);
        CHECK.due("latest(0, 1)", x.latest(0, 1), 6);
        CHECK.due("latest(5, 2)", x.latest(5, 2), 107);
        CHECK.due("latest(6, 2)", x.latest(6, 2), FarBanks.NONE);
        CHECK.due("bank(0, 4)", x.bank(0, 4), 1);
        CHECK.due("bank(2, 5)", x.bank(2, 5), 1);
        CHECK.due("cell(7, 12)", x.cell(7, 12), 7);
        CHECK.due("cell(5, 3)", x.cell(5, 3), 760);
    }

    private static void wholeState() {
        CHECK.promise("Promise 12");
        FarBanks x = busy();
        tellsBusy(x);
        x.run(1);
        x.begin(40);
        CHECK.due("undo()", x.undo(), 3);
        CHECK.due("undo()", x.undo(), 2);
        tellsBusy(x);
        CHECK.promise("Promise 14");
        x.keep();
        x.run(9);
        x.begin(33);
        x.run(9);
        x.set(1);
        x.show(0, 7);
        x.put(7, 13, 13);
        x.lock(4, true);
        CHECK.due("restore()", x.restore(), 1);
        tellsBusy(x);
        CHECK.due("cell(0, 13)", x.cell(0, 13), 0);
    }

    private static void rowsUsedAgain() {
        CHECK.promise("Promise 12");
        FarBanks x = busy();
        x.begin(48);
        x.show(3, 4);
        CHECK.code(x, 4, 0, "store 50;store 33;halt");
        CHECK.due("run(99)", x.run(99), 3);
        CHECK.due("bank(4, 4)", x.bank(4, 4), 1);
        CHECK.due("refused", x.count(7), 2);
        CHECK.due("undo() of run", x.undo(), 3);
        CHECK.due("frames", x.count(2), 0);
        CHECK.due("calls", x.count(5), 2);
        CHECK.due("written", x.count(6), 1);
        CHECK.due("refused", x.count(7), 1);
        CHECK.due("bank(4, 4)", x.bank(4, 4), 0);
        CHECK.due("latest(0, 2)", x.latest(0, 2), 902);
        CHECK.due("count(3)", x.count(3), 0);
        FarBanks y = busy();
        CHECK.code(y, 3, 0, "call 3 1;call 3 2;plus 1;store 34;store 13;jump 50");
        y.keep();
        y.begin(48);
        y.run(40);
        CHECK.due("frame(1, 0)", y.frame(1, 0), 3);
        CHECK.due("calls", y.count(5), 4);
        CHECK.due("undo() of run", y.undo(), 3);
        CHECK.due("undo() of begin", y.undo(), 2);
        tellsBusyRows(y);
        y.begin(48);
        y.run(40);
        CHECK.due("restore()", y.restore(), 1);
        tellsBusyRows(y);
    }

    private static void tellsBusyRows(FarBanks x) {
        tellsBusy(x);
        CHECK.due("frame(0, 0)", x.frame(0, 0), 0);
        CHECK.due("frame(1, 0)", x.frame(1, 0), 0);
        int[] addresses = {0, 3, 3, 2, 1, 0};
        int[] banks = {6, 5, 0, 0, 0, 0};
        int[] orders = {902, 760, 753, 332, 312, 107};
        for (int rank = 0; rank < 6; rank++) {
            CHECK.due("latest(" + rank + ", 0)", x.latest(rank, 0), addresses[rank]);
            CHECK.due("latest(" + rank + ", 1)", x.latest(rank, 1), banks[rank]);
            CHECK.due("latest(" + rank + ", 2)", x.latest(rank, 2), orders[rank]);
        }
    }

    private static void keep() {
        CHECK.promise("Promise 13");
        FarBanks x = new FarBanks();
        x.begin(9);
        CHECK.due("keep()", x.keep(), 9);
        x.begin(63);
        x.run(1);
        CHECK.due("keep() where it had run out", x.keep(), 64);
        CHECK.due("count(10)", x.count(10), 3);
        x.begin(5);
        CHECK.due("restore() of the later snapshot", x.restore(), 64);
        CHECK.due("count(3)", x.count(3), 1);
    }

    private static void restore() {
        CHECK.promise("Promise 14");
        FarBanks x = new FarBanks();
        CHECK.due("restore()", x.restore(), FarBanks.NONE);
        CHECK.due("count(10)", x.count(10), 0);
        CHECK.typeText(x, "halt");
        x.keep();
        x.clearText();
        x.begin(7);
        CHECK.due("restore()", x.restore(), 0);
        CHECK.due("count(11): the text is no part of a state", x.count(11), 0);
        CHECK.due("count(10)", x.count(10), 2);
        CHECK.due("restore() again: the snapshot stays", x.restore(), 0);
        CHECK.due("count(10)", x.count(10), 3);
        x.put(0, 0, 3);
        x.undo();
        x.undo();
        x.undo();
        CHECK.due("count(1): undo goes behind restore", x.count(1), 7);
        x.undo();
        CHECK.due("restore(): undo leaves the snapshot", x.restore(), 0);
        x.put(1, 1, 1);
        CHECK.due("restore()", x.restore(), 0);
        CHECK.due("cell(1, 1): the snapshot did not change with the state", x.cell(1, 1), 0);
    }
}
