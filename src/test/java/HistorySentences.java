import java.util.function.Supplier;
import java.util.function.ToIntFunction;

/** What the document's terms say of the history and of errors. */
final class HistorySentences {
    private final Sentences s;

    private HistorySentences(Sentences sentences) {
        s = sentences;
    }

    static void test(Sentences sentences) {
        HistorySentences history = new HistorySentences(sentences);
        history.fullHistory();
        history.actsAreRecorded();
        history.snapshot();
        history.state();
        history.constants();
        history.orderOfChecks();
        history.noneComesLast();
        history.refusedCalls();
    }

    private void fullHistory() {
        s.section("HISTORY");
        s.says("A history of at most 4 states is kept;");
        FarBanks x = new FarBanks();
        s.due("count(10) at first", x.count(10), 0);
        s.due("undo() at first", x.undo(), FarBanks.NONE);
        for (int number = 1; number <= 4; number++) {
            x.put(0, 0, number);
            s.due("count(10)", x.count(10), number);
        }
        undoesAll(x, 0);
        for (int number = 1; number <= 9; number++) {
            x.put(0, 0, number);
        }
        s.due("count(10) of nine acts", x.count(10), 4);
        s.says("when one more is recorded, the oldest one is dropped;");
        undoesAll(x, 5);
        for (int number = 6; number <= 10; number++) {
            x.put(0, 0, number);
        }
        s.due("count(10) of five acts", x.count(10), 4);
        undoesAll(x, 6);
        for (int number = 7; number <= 24; number++) {
            x.put(0, 0, number);
        }
        undoesAll(x, 20);
        s.says("undo() removes and restores the latest one.");
        for (int number = 31; number <= 34; number++) {
            x.put(0, 0, number);
        }
        s.due("undo()", x.undo(), 3);
        s.due("cell(0, 0)", x.cell(0, 0), 33);
        s.due("count(10)", x.count(10), 3);
        x.put(0, 0, 34);
        x.put(0, 0, 35);
        undoesAll(x, 31);
    }

    /** The numbers were put one behind the other, so that the states have them in a row, too. */
    private void undoesAll(FarBanks x, int oldest) {
        for (int left = 3; left >= 0; left--) {
            s.due("undo()", x.undo(), left);
            s.due("cell(0, 0) with " + left + " left", x.cell(0, 0), oldest + left);
        }
        s.due("undo() of nothing", x.undo(), FarBanks.NONE);
        s.due("cell(0, 0) behind it", x.cell(0, 0), oldest);
        s.due("count(10) behind it", x.count(10), 0);
    }

    private void recorded(FarBanks x, String call, ToIntFunction<FarBanks> answer, boolean isRecorded) {
        for (int left = x.count(10); left > 0; left--) {
            x.undo();
        }
        answer.applyAsInt(x);
        s.due("count(10) behind " + call, x.count(10), isRecorded ? 1 : 0);
    }

    private void actsAreRecorded() {
        s.says("Each call of a method that is described as an act, and returns no error and not NONE, "
            + "records the state that was before it.");
        FarBanks x = new FarBanks();
        s.typeText(x, "halt");
        recorded(x, "restore() without a snapshot", FarBanks::restore, false);
        recorded(x, "keep()", FarBanks::keep, false);
        recorded(x, "restore() of the same state", FarBanks::restore, true);
        recorded(x, "put", y -> y.put(0, 0, 1), true);
        recorded(x, "put of the same", y -> y.put(0, 0, 0), false);
        recorded(x, "put of an error", y -> y.put(0, 0, 1000), false);
        recorded(x, "lock", y -> y.lock(0, true), true);
        recorded(x, "lock of the same", y -> y.lock(0, false), false);
        recorded(x, "show", y -> y.show(0, 1), true);
        recorded(x, "show of the same", y -> y.show(0, 0), false);
        recorded(x, "copyBank of the same", y -> y.copyBank(0, 2), false);
        recorded(x, "set", y -> y.set(1), true);
        recorded(x, "set of the same", y -> y.set(0), false);
        recorded(x, "begin at the same place", y -> y.begin(0), true);
        recorded(x, "begin of an error", y -> y.begin(64), false);
        recorded(x, "run", y -> y.run(1), true);
        recorded(x, "run of an error", y -> y.run(0), false);
        recorded(x, "assemble of the same", y -> y.assemble(0, 0), true);
        recorded(x, "assemble of an error", y -> y.assemble(8, 0), false);
        recorded(x, "type", y -> y.type(';'), false);
        recorded(x, "assemble of a fault", y -> y.assemble(0, 0), false);
        recorded(x, "clearText()", FarBanks::clearText, false);
        recorded(x, "ifRun", y -> y.ifRun(1, 0), false);
        recorded(x, "next", y -> y.next(1), false);
        recorded(x, "backIn()", FarBanks::backIn, false);
        x.put(1, 1, 8);
        s.due("copyBank(1, 2)", x.copyBank(1, 2), 1);
        s.due("count(10) behind copyBank", x.count(10), 2);
    }

    private void snapshot() {
        s.says("There is one snapshot, empty at first.");
        FarBanks x = new FarBanks();
        s.due("restore() at first", x.restore(), FarBanks.NONE);
        x.begin(11);
        s.due("keep()", x.keep(), 11);
        x.begin(22);
        s.due("keep() of another one", x.keep(), 22);
        x.begin(33);
        s.due("restore()", x.restore(), 22);
        s.due("restore() again", x.restore(), 22);
    }

    private void comesBack(String acts, ToIntFunction<FarBanks> act) {
        FarBanks x = Told.busy();
        FarBanks y = Told.busy();
        s.holds(acts + " is no act", act.applyAsInt(x) >= 0);
        s.due("undo() of " + acts, x.undo(), 3);
        s.due("differences behind undo() of " + acts, Told.differences(x, y), 0);
        FarBanks z = Told.busy();
        z.keep();
        act.applyAsInt(z);
        s.due("restore() behind " + acts, z.restore(), 2);
        s.due("differences behind " + acts + " and restore()", Told.differences(z, y), 0);
    }

    private void state() {
        s.says("A state is everything but the text, the history and the snapshot.");
        comesBack("put", x -> x.put(6, 3, 1));
        comesBack("put into the common part", x -> x.put(6, 15, 1));
        comesBack("lock", x -> x.lock(7, true));
        comesBack("show", x -> x.show(2, 7));
        comesBack("copyBank", x -> x.copyBank(6, 1));
        comesBack("set", x -> x.set(0));
        comesBack("begin", x -> x.begin(63));
        comesBack("a run with a store, two backs, a call and a store that is refused", x -> x.run(9));
        comesBack("restore", FarBanks::restore);
        FarBanks y = Told.busy("abc");
        y.put(6, 3, 1);
        y.type('d');
        y.keep();
        y.undo();
        s.due("count(11): the text is no part of it", y.count(11), 4);
        s.due("restore(): the snapshot is no part of it", y.restore(), 2);
        s.due("cell(6, 3) of the snapshot", y.cell(6, 3), 1);
        y.clearText();
        y.undo();
        s.due("count(11): the text is no part of it", y.count(11), 0);
        s.due("count(10) ahead of restore()", y.count(10), 3);
        y.restore();
        s.due("count(10): the history is no part of it", y.count(10), 4);
    }

    private void constants() {
        s.section("ERRORS");
        s.aside("Errors are reported by the constants below.");
        s.aside("The constants:");
        s.says("`UNKNOWN = -1`: There is no such bank, cell, window or address.");
        FarBanks x = new FarBanks();
        s.due("UNKNOWN", FarBanks.UNKNOWN, -1);
        s.due("lock(8, true)", x.lock(8, true), -1);
        s.due("cell(0, 16)", x.cell(0, 16), -1);
        s.due("window(4)", x.window(4), -1);
        s.due("begin(64)", x.begin(64), -1);
        s.says("`BAD_VALUE = -2`: Another argument is out of range.");
        s.due("BAD_VALUE", FarBanks.BAD_VALUE, -2);
        s.due("put(0, 0, 1000)", x.put(0, 0, 1000), -2);
        s.due("set(2)", x.set(2), -2);
        s.due("count(12)", x.count(12), -2);
        s.says("`FULL = -3`: There is no more room.");
        s.due("FULL", FarBanks.FULL, -3);
        s.typeText(x, "halt;halt");
        s.due("assemble(0, 15)", x.assemble(0, 15), -3);
        s.says("`NOT_POSSIBLE = -4`: This is not possible.");
        s.due("NOT_POSSIBLE", FarBanks.NOT_POSSIBLE, -4);
        x.run(1);
        s.due("run(1) of a machine that has stopped", x.run(1), -4);
        s.says("`NONE = -5`: There is no such thing; not an error.");
        s.due("NONE", FarBanks.NONE, -5);
        s.due("frame(0, 0)", x.frame(0, 0), -5);
        interfaceSays();
    }

    private void interfaceSays() {
        s.aside("Ahead of the calls `put`, `lock`, `show`, `copyBank`, `set` the interface says: ---- banks, windows.");
        s.aside("Ahead of the calls `begin`, `run` the interface says: ---- running.");
        s.aside("Ahead of the calls `type`, `clearText`, `assemble` the interface says: ---- texts.");
        s.aside("Ahead of the calls `undo`, `keep`, `restore` the interface says: ---- history.");
        s.aside("Ahead of the calls `cell`, `address`, `bank`, `window`, `frame`, `latest`, `next`, `ifRun`, `backIn`, "
            + "`count` the interface says: ---- what is told.");
    }

    private void orderOfChecks() {
        s.says("Where several errors can apply, the order of the @return line is the order of the checks.");
        FarBanks x = new FarBanks();
        s.due("put(8, 0, 1000)", x.put(8, 0, 1000), FarBanks.UNKNOWN);
        s.due("put(0, 16, -1)", x.put(0, 16, -1), FarBanks.UNKNOWN);
        s.due("address(64, 4)", x.address(64, 4), FarBanks.UNKNOWN);
        s.due("address(-1, -1)", x.address(-1, -1), FarBanks.UNKNOWN);
        s.due("bank(8, 6)", x.bank(8, 6), FarBanks.UNKNOWN);
        s.due("bank(-1, -1)", x.bank(-1, -1), FarBanks.UNKNOWN);
        s.due("assemble(8, 0) of a fault", x.assemble(8, 0), FarBanks.UNKNOWN);
        s.due("assemble(0, 16) of a fault", x.assemble(0, 16), FarBanks.UNKNOWN);
        s.typeText(x, "halt;back");
        s.due("assemble(8, 15) of two orders", x.assemble(8, 15), FarBanks.UNKNOWN);
        s.due("assemble(0, 16) of two orders", x.assemble(0, 16), FarBanks.UNKNOWN);
        s.typeText(x, "halt;back;");
        s.due("assemble(0, 15) of a fault behind two orders", x.assemble(0, 15), -110);
        x.run(1);
        s.due("run(0) of a machine that has stopped", x.run(0), FarBanks.BAD_VALUE);
        s.due("run(1000) of a machine that has stopped", x.run(1000), FarBanks.BAD_VALUE);
        s.due("ifRun(0, 0) of a machine that has stopped", x.ifRun(0, 0), FarBanks.BAD_VALUE);
        s.due("ifRun(1, 5) of a machine that has stopped", x.ifRun(1, 5), FarBanks.BAD_VALUE);
    }

    private void noneComesLast() {
        s.says("NONE is no error; it is returned only if no error applies.");
        FarBanks x = new FarBanks();
        s.due("copyBank(8, 8)", x.copyBank(8, 8), FarBanks.UNKNOWN);
        s.due("copyBank(-1, -1)", x.copyBank(-1, -1), FarBanks.UNKNOWN);
        s.due("lock(8, false)", x.lock(8, false), FarBanks.UNKNOWN);
        s.due("lock(-1, false)", x.lock(-1, false), FarBanks.UNKNOWN);
        s.due("show(8, 8)", x.show(8, 8), FarBanks.UNKNOWN);
        s.due("address(0, 4) without another address", x.address(0, 4), FarBanks.BAD_VALUE);
        s.due("frame(-1, 0) without a frame", x.frame(-1, 0), FarBanks.BAD_VALUE);
        s.due("frame(0, 3) without a frame", x.frame(0, 3), FarBanks.BAD_VALUE);
        s.due("frame(0, -1) without a frame", x.frame(0, -1), FarBanks.BAD_VALUE);
        s.due("latest(-1, 0) without a step", x.latest(-1, 0), FarBanks.BAD_VALUE);
        s.due("latest(0, 3) without a step", x.latest(0, 3), FarBanks.BAD_VALUE);
        s.due("latest(0, -1) without a step", x.latest(0, -1), FarBanks.BAD_VALUE);
        x.run(1);
        s.due("next(3) of a machine that has stopped", x.next(3), FarBanks.BAD_VALUE);
        s.due("next(-1) of a machine that has stopped", x.next(-1), FarBanks.BAD_VALUE);
    }

    private void refused(Supplier<FarBanks> made, String call, ToIntFunction<FarBanks> answer, int due) {
        FarBanks x = made.get();
        FarBanks y = made.get();
        s.due(call, answer.applyAsInt(x), due);
        s.due("count(10) behind " + call, x.count(10), y.count(10));
        s.due("count(11) behind " + call, x.count(11), y.count(11));
        s.due("differences behind " + call, Told.differences(x, y), 0);
        // Nothing was asked of this one yet.
        FarBanks z = made.get();
        s.due("assemble behind " + call, x.assemble(1, 1), z.assemble(1, 1));
        s.due("cell(1, 1) behind assemble and " + call, x.cell(1, 1), z.cell(1, 1));
        for (int undone = 0; undone <= 4; undone++) {
            s.due("undo() behind " + call, x.undo(), z.undo());
        }
        s.due("differences behind undo() and " + call, Told.differences(x, z), 0);
        s.due("restore() behind " + call, x.restore(), made.get().restore());
    }

    private void refusedCalls() {
        s.says("A call that returns an error or NONE changes nothing.");
        refusedActs();
        refusedRuns();
        refusedQuestions();
        String fault = "plus 5;halt;";
        refused(() -> Told.busy(fault), "assemble of a fault", x -> x.assemble(0, 0), -112);
        String full = "load 10;".repeat(9) + "store 10";
        refused(() -> Told.busy(full), "type into a full text", x -> x.type('x'), FarBanks.FULL);
        refused(FarBanks::new, "undo() at first", FarBanks::undo, FarBanks.NONE);
        refused(FarBanks::new, "restore() at first", FarBanks::restore, FarBanks.NONE);
        refused(HistorySentences::stopped, "run", x -> x.run(1), FarBanks.NOT_POSSIBLE);
        refused(HistorySentences::stopped, "ifRun", x -> x.ifRun(1, 0), FarBanks.NOT_POSSIBLE);
        refused(HistorySentences::stopped, "next", x -> x.next(0), FarBanks.NONE);
        refused(HistorySentences::stopped, "backIn", FarBanks::backIn, FarBanks.NONE);
    }

    private static FarBanks busy() {
        return Told.busy("plus 5;halt");
    }

    private static FarBanks stopped() {
        FarBanks x = busy();
        x.put(6, 3, 0);
        x.run(2);
        return x;
    }

    private void refusedActs() {
        refused(HistorySentences::busy, "put(8, 0, 1)", x -> x.put(8, 0, 1), FarBanks.UNKNOWN);
        refused(HistorySentences::busy, "put(-1, 0, 1)", x -> x.put(-1, 0, 1), FarBanks.UNKNOWN);
        refused(HistorySentences::busy, "put(0, 16, 1)", x -> x.put(0, 16, 1), FarBanks.UNKNOWN);
        refused(HistorySentences::busy, "put(0, -1, 1)", x -> x.put(0, -1, 1), FarBanks.UNKNOWN);
        refused(HistorySentences::busy, "put(0, 0, 1000)", x -> x.put(0, 0, 1000), FarBanks.BAD_VALUE);
        refused(HistorySentences::busy, "put(0, 0, -1)", x -> x.put(0, 0, -1), FarBanks.BAD_VALUE);
        refused(HistorySentences::busy, "put(0, 0, 107)", x -> x.put(0, 0, 107), FarBanks.NONE);
        refused(HistorySentences::busy, "lock(8, true)", x -> x.lock(8, true), FarBanks.UNKNOWN);
        refused(HistorySentences::busy, "lock(-1, true)", x -> x.lock(-1, true), FarBanks.UNKNOWN);
        refused(HistorySentences::busy, "lock(2, true)", x -> x.lock(2, true), FarBanks.NONE);
        refused(HistorySentences::busy, "show(4, 0)", x -> x.show(4, 0), FarBanks.UNKNOWN);
        refused(HistorySentences::busy, "show(-1, 0)", x -> x.show(-1, 0), FarBanks.UNKNOWN);
        refused(HistorySentences::busy, "show(0, 8)", x -> x.show(0, 8), FarBanks.UNKNOWN);
        refused(HistorySentences::busy, "show(0, -1)", x -> x.show(0, -1), FarBanks.UNKNOWN);
        refused(HistorySentences::busy, "show(1, 4)", x -> x.show(1, 4), FarBanks.NONE);
        refused(HistorySentences::busy, "copyBank(8, 0)", x -> x.copyBank(8, 0), FarBanks.UNKNOWN);
        refused(HistorySentences::busy, "copyBank(-1, 0)", x -> x.copyBank(-1, 0), FarBanks.UNKNOWN);
        refused(HistorySentences::busy, "copyBank(0, 8)", x -> x.copyBank(0, 8), FarBanks.UNKNOWN);
        refused(HistorySentences::busy, "copyBank(0, -1)", x -> x.copyBank(0, -1), FarBanks.UNKNOWN);
        refused(HistorySentences::busy, "copyBank(1, 3)", x -> x.copyBank(1, 3), FarBanks.NONE);
        refused(HistorySentences::busy, "copyBank(0, 0)", x -> x.copyBank(0, 0), FarBanks.NONE);
        refused(HistorySentences::busy, "set(2)", x -> x.set(2), FarBanks.BAD_VALUE);
        refused(HistorySentences::busy, "set(-1)", x -> x.set(-1), FarBanks.BAD_VALUE);
        refused(HistorySentences::busy, "set(1)", x -> x.set(1), FarBanks.NONE);
    }

    private void refusedRuns() {
        refused(HistorySentences::busy, "begin(64)", x -> x.begin(64), FarBanks.UNKNOWN);
        refused(HistorySentences::busy, "begin(-1)", x -> x.begin(-1), FarBanks.UNKNOWN);
        refused(HistorySentences::busy, "run(0)", x -> x.run(0), FarBanks.BAD_VALUE);
        refused(HistorySentences::busy, "run(-1)", x -> x.run(-1), FarBanks.BAD_VALUE);
        refused(HistorySentences::busy, "run(1000)", x -> x.run(1000), FarBanks.BAD_VALUE);
        refused(HistorySentences::busy, "assemble(8, 0)", x -> x.assemble(8, 0), FarBanks.UNKNOWN);
        refused(HistorySentences::busy, "assemble(-1, 0)", x -> x.assemble(-1, 0), FarBanks.UNKNOWN);
        refused(HistorySentences::busy, "assemble(0, 16)", x -> x.assemble(0, 16), FarBanks.UNKNOWN);
        refused(HistorySentences::busy, "assemble(0, -1)", x -> x.assemble(0, -1), FarBanks.UNKNOWN);
        refused(HistorySentences::busy, "assemble(0, 15)", x -> x.assemble(0, 15), FarBanks.FULL);
    }

    private void refusedQuestions() {
        refused(HistorySentences::busy, "cell(8, 0)", x -> x.cell(8, 0), FarBanks.UNKNOWN);
        refused(HistorySentences::busy, "address(64, 0)", x -> x.address(64, 0), FarBanks.UNKNOWN);
        refused(HistorySentences::busy, "address(0, 4)", x -> x.address(0, 4), FarBanks.BAD_VALUE);
        refused(HistorySentences::busy, "address(0, 3)", x -> x.address(0, 3), FarBanks.NONE);
        refused(HistorySentences::busy, "bank(8, 0)", x -> x.bank(8, 0), FarBanks.UNKNOWN);
        refused(HistorySentences::busy, "bank(0, 6)", x -> x.bank(0, 6), FarBanks.BAD_VALUE);
        refused(HistorySentences::busy, "window(4)", x -> x.window(4), FarBanks.UNKNOWN);
        refused(HistorySentences::busy, "frame(0, 3)", x -> x.frame(0, 3), FarBanks.BAD_VALUE);
        refused(HistorySentences::busy, "frame(2, 0)", x -> x.frame(2, 0), FarBanks.NONE);
        refused(HistorySentences::busy, "latest(0, 3)", x -> x.latest(0, 3), FarBanks.BAD_VALUE);
        refused(HistorySentences::busy, "latest(7, 0)", x -> x.latest(7, 0), FarBanks.NONE);
        refused(HistorySentences::busy, "next(3)", x -> x.next(3), FarBanks.BAD_VALUE);
        refused(HistorySentences::busy, "ifRun(0, 0)", x -> x.ifRun(0, 0), FarBanks.BAD_VALUE);
        refused(HistorySentences::busy, "ifRun(1000, 0)", x -> x.ifRun(1000, 0), FarBanks.BAD_VALUE);
        refused(HistorySentences::busy, "ifRun(1, 5)", x -> x.ifRun(1, 5), FarBanks.BAD_VALUE);
        refused(HistorySentences::busy, "count(12)", x -> x.count(12), FarBanks.BAD_VALUE);
    }
}
