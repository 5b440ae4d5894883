/** Promises 7 and 8: begin and run, with every order and every reason. */
final class RunningTest {
    private static final Check CHECK = new Check();

    public static void main(String[] args) {
        begin();
        runArguments();
        numbers();
        jumps();
        stores();
        refusedStores();
        storesIntoCommonPart();
        windowSwappedUnderCode();
        callsAndBacks();
        callAtTheEnd();
        reasons();
        reasonsAtTheEnd();
        selfChangingCode();
        eachOrderAlone();
        mostSteps();
        CHECK.close();
    }

    private static void begin() {
        CHECK.promise("Promise 7");
        FarBanks x = new FarBanks();
        CHECK.code(x, 0, 0, "load 7;store 20;call 5 0");
        x.run(3);
        CHECK.due("count(2)", x.count(2), 1);
        CHECK.due("begin(64)", x.begin(64), FarBanks.UNKNOWN);
        CHECK.due("begin(-1)", x.begin(-1), FarBanks.UNKNOWN);
        CHECK.due("count(2) behind errors", x.count(2), 1);
        CHECK.due("begin(63)", x.begin(63), 0);
        CHECK.due("place", x.count(1), 63);
        CHECK.due("number", x.count(0), 0);
        CHECK.due("frames", x.count(2), 0);
        CHECK.due("reason", x.count(3), 0);
        CHECK.due("steps", x.count(4), 3);
        CHECK.due("calls", x.count(5), 1);
        CHECK.due("written", x.count(6), 1);
        CHECK.due("window(0) stays", x.window(0), 5);
        CHECK.due("latest(0, 2) stays", x.latest(0, 2), 750);
        CHECK.due("cell(1, 4) stays", x.cell(1, 4), 7);
        CHECK.due("run(1)", x.run(1), 1);
        CHECK.due("reason of a halt at 63", x.count(3), 1);
        CHECK.due("begin(0) where it had run out", x.begin(0), 64);
        CHECK.due("begin(0) again", x.begin(0), 0);
        CHECK.due("count(10)", x.count(10), 4);
    }

    private static void runArguments() {
        CHECK.promise("Promise 8");
        FarBanks x = new FarBanks();
        CHECK.due("run(0)", x.run(0), FarBanks.BAD_VALUE);
        CHECK.due("run(1000)", x.run(1000), FarBanks.BAD_VALUE);
        CHECK.due("run(-1)", x.run(-1), FarBanks.BAD_VALUE);
        CHECK.due("count(10) behind errors", x.count(10), 0);
        CHECK.due("put(0, 0, 400)", x.put(0, 0, 400), 0);
        CHECK.due("run(999)", x.run(999), 999);
        CHECK.due("count(4)", x.count(4), 999);
        CHECK.due("put(0, 0, 99)", x.put(0, 0, 99), 400);
        CHECK.due("run(999) of a halt", x.run(999), 1);
        CHECK.due("count(4)", x.count(4), 1000);
        CHECK.due("count(10)", x.count(10), 4);
        CHECK.due("run(1) behind the halt", x.run(1), FarBanks.NOT_POSSIBLE);
        CHECK.due("run(0) behind the halt", x.run(0), FarBanks.BAD_VALUE);
        CHECK.due("undo()", x.undo(), 3);
        CHECK.due("count(3) runs again", x.count(3), 0);
        CHECK.due("count(4)", x.count(4), 999);
    }

    private static void numbers() {
        CHECK.promise("Promise 8");
        FarBanks x = new FarBanks();
        CHECK.code(x, 0, 0, "load 99;add 63;add 18;plus 0;plus 1;plus 99");
        x.put(0, 15, 900);
        x.put(1, 2, 999);
        int[] due = {99, 999, 998, 998, 999, 98};
        for (int step = 0; step < due.length; step++) {
            CHECK.due("run(1)", x.run(1), 1);
            CHECK.due("number behind step " + step, x.count(0), due[step]);
        }
        x.put(1, 2, 902);
        x.begin(2);
        x.run(1);
        CHECK.due("0 and 902", x.count(0), 902);
        x.put(0, 0, 998);
        x.begin(0);
        x.run(1);
        CHECK.due("0 and 98", x.count(0), 98);
        x.run(1);
        CHECK.due("98 and 900", x.count(0), 998);
    }

    private static void jumps() {
        CHECK.promise("Promise 8");
        FarBanks x = new FarBanks();
        CHECK.code(x, 0, 0, "zero 63;halt");
        CHECK.code(x, 3, 15, "jump 17");
        CHECK.code(x, 1, 1, "load 1;zero 0;jump 0");
        int[] due = {63, 17, 18, 19, 0, 1};
        for (int step = 0; step < due.length; step++) {
            CHECK.due("run(1)", x.run(1), 1);
            CHECK.due("place behind step " + step, x.count(1), due[step]);
        }
        CHECK.due("reason", x.count(3), 0);
    }

    private static void stores() {
        CHECK.promise("Promise 8");
        FarBanks x = new FarBanks();
        x.show(2, 6);
        CHECK.code(x, 0, 0, "load 42;store 43;store 43;store 0;load 0;store 32");
        CHECK.due("run(6)", x.run(6), 6);
        CHECK.due("cell(6, 11)", x.cell(6, 11), 42);
        CHECK.due("cell(2, 11)", x.cell(2, 11), 0);
        CHECK.due("cell(0, 0)", x.cell(0, 0), 42);
        CHECK.due("bank(6, 4), also the same number and 0", x.bank(6, 4), 3);
        CHECK.due("bank(0, 4)", x.bank(0, 4), 1);
        CHECK.due("count(6)", x.count(6), 4);
        CHECK.due("count(7)", x.count(7), 0);
        CHECK.due("count(1)", x.count(1), 6);
    }

    private static void refusedStores() {
        CHECK.promise("Promise 8");
        FarBanks x = new FarBanks();
        CHECK.code(x, 0, 0, "load 42;store 16;store 16;halt");
        x.lock(1, true);
        CHECK.due("run(9), not strict", x.run(9), 4);
        CHECK.due("reason", x.count(3), 1);
        CHECK.due("cell(1, 0)", x.cell(1, 0), 0);
        CHECK.due("bank(1, 5)", x.bank(1, 5), 2);
        CHECK.due("bank(1, 4)", x.bank(1, 4), 0);
        CHECK.due("count(7)", x.count(7), 2);
        x.set(1);
        x.begin(0);
        CHECK.due("run(9), strict", x.run(9), 2);
        CHECK.due("reason", x.count(3), 2);
        CHECK.due("place", x.count(1), 2);
        CHECK.due("number", x.count(0), 42);
        CHECK.due("bank(1, 5)", x.bank(1, 5), 3);
        CHECK.due("latest(0, 2)", x.latest(0, 2), 316);
        CHECK.due("count(4)", x.count(4), 6);
        x.lock(1, false);
        x.begin(0);
        CHECK.due("run(9), strict, written", x.run(9), 4);
        CHECK.due("cell(1, 0)", x.cell(1, 0), 42);
    }

    private static void storesIntoCommonPart() {
        CHECK.promise("Promise 8");
        FarBanks x = new FarBanks();
        x.lock(1, true);
        CHECK.code(x, 0, 0, "load 8;store 28;store 12;load 9;store 29;store 47");
        CHECK.due("run(2)", x.run(2), 2);
        CHECK.due("cell(0, 12), refused by way of the bank 1", x.cell(0, 12), 0);
        CHECK.due("run(1)", x.run(1), 1);
        CHECK.due("cell(1, 12), by way of the bank 0", x.cell(1, 12), 8);
        CHECK.due("cell(7, 12)", x.cell(7, 12), 8);
        CHECK.due("run(3)", x.run(3), 3);
        CHECK.due("cell(1, 13)", x.cell(1, 13), 0);
        CHECK.due("cell(1, 15)", x.cell(1, 15), 9);
        CHECK.due("bank(1, 5)", x.bank(1, 5), 2);
        CHECK.due("bank(1, 4)", x.bank(1, 4), 0);
        CHECK.due("bank(0, 4)", x.bank(0, 4), 1);
        CHECK.due("bank(2, 4)", x.bank(2, 4), 1);
    }

    private static void windowSwappedUnderCode() {
        CHECK.promise("Promise 8");
        FarBanks x = new FarBanks();
        CHECK.code(x, 0, 0, "show 0 7;load 1");
        CHECK.code(x, 7, 1, "load 2;show 3 0;store 48");
        x.run(2);
        CHECK.due("number", x.count(0), 2);
        CHECK.due("place", x.count(1), 2);
        CHECK.due("window(0)", x.window(0), 7);
        CHECK.due("latest(0, 1)", x.latest(0, 1), 7);
        CHECK.due("latest(1, 1)", x.latest(1, 1), 0);
        x.run(2);
        CHECK.due("window(3)", x.window(3), 0);
        CHECK.due("cell(0, 0)", x.cell(0, 0), 2);
        CHECK.due("count(2)", x.count(2), 0);
    }

    private static void callsAndBacks() {
        CHECK.promise("Promise 8");
        FarBanks x = new FarBanks();
        x.show(2, 4);
        CHECK.code(x, 4, 11, "call 6 9");
        CHECK.code(x, 6, 9, "show 2 5");
        CHECK.code(x, 5, 10, "call 2 0");
        CHECK.code(x, 2, 0, "show 2 3");
        CHECK.code(x, 3, 1, "back");
        x.put(5, 11, 877);
        x.begin(43);
        int[][] due = {{41, 6, 1}, {42, 5, 1}, {32, 2, 2}, {33, 3, 2}, {43, 5, 1}, {44, 4, 0}};
        for (int[] row : due) {
            CHECK.due("run(1)", x.run(1), 1);
            CHECK.due("place", x.count(1), row[0]);
            CHECK.due("window(2)", x.window(2), row[1]);
            CHECK.due("frames", x.count(2), row[2]);
        }
        CHECK.due("calls", x.count(5), 2);
        CHECK.due("reason", x.count(3), 0);
        CHECK.due("number: what is left of a back is nothing", x.count(0), 0);
    }

    private static void callAtTheEnd() {
        CHECK.promise("Promise 8");
        FarBanks x = new FarBanks();
        CHECK.code(x, 3, 15, "call 5 3");
        CHECK.code(x, 5, 3, "back");
        x.begin(63);
        CHECK.due("run(1)", x.run(1), 1);
        CHECK.due("reason", x.count(3), 0);
        CHECK.due("place", x.count(1), 51);
        CHECK.due("frame(0, 2)", x.frame(0, 2), 64);
        CHECK.due("next(1)", x.next(1), 6);
        CHECK.due("backIn()", x.backIn(), 1);
        CHECK.due("run(9)", x.run(9), 1);
        CHECK.due("reason", x.count(3), 6);
        CHECK.due("place", x.count(1), 64);
        CHECK.due("window(3)", x.window(3), 3);
        CHECK.due("frames", x.count(2), 0);
    }

    private static void stopsBy(int order, int reason) {
        FarBanks x = new FarBanks();
        x.put(0, 5, order);
        x.put(0, 4, 901);
        x.begin(4);
        CHECK.due("run(9) of " + order, x.run(9), reason == 0 ? 9 : 2);
        if (reason != 0) {
            CHECK.due("reason of " + order, x.count(3), reason);
            CHECK.due("place of " + order, x.count(1), 6);
            CHECK.due("number of " + order, x.count(0), 1);
            CHECK.due("calls of " + order, x.count(5), 0);
            CHECK.due("written of " + order, x.count(6), 0);
            CHECK.due("refused of " + order, x.count(7), 0);
            CHECK.due("frames of " + order, x.count(2), 0);
            CHECK.due("latest(0, 2) of " + order, x.latest(0, 2), order);
            CHECK.due("latest(0, 0) of " + order, x.latest(0, 0), 5);
            CHECK.due("run(1) behind " + order, x.run(1), FarBanks.NOT_POSSIBLE);
            for (int window = 0; window < 4; window++) {
                CHECK.due("window(" + window + ") of " + order, x.window(window), window);
            }
        }
    }

    private static void reasons() {
        CHECK.promise("Promise 8");
        int[] beyond = {264, 299, 364, 399, 464, 499, 564, 599, 608, 609, 638, 640, 699, 780, 799};
        for (int order : beyond) {
            stopsBy(order, 3);
        }
        stopsBy(0, 1);
        stopsBy(99, 1);
        stopsBy(800, 5);
        stopsBy(899, 5);
        FarBanks x = new FarBanks();
        x.put(0, 0, 700);
        CHECK.due("run(8) of eight calls", x.run(8), 8);
        CHECK.due("reason", x.count(3), 0);
        CHECK.due("frames", x.count(2), 8);
        x.put(0, 0, 780);
        CHECK.due("next(1) of a call to the bank 8", x.next(1), 3);
        x.put(0, 0, 770);
        CHECK.due("next(1) of a call to the bank 7", x.next(1), 4);
        CHECK.due("run(9)", x.run(9), 1);
        CHECK.due("reason", x.count(3), 4);
        CHECK.due("frames", x.count(2), 8);
        CHECK.due("calls", x.count(5), 8);
        CHECK.due("window(0)", x.window(0), 0);
        CHECK.due("place", x.count(1), 1);
        CHECK.due("steps", x.count(4), 9);
    }

    private static void atTheEnd(int order, boolean strict, int reason, int place) {
        FarBanks x = new FarBanks();
        x.lock(2, true);
        x.set(strict ? 1 : 0);
        x.put(0, 15, order);
        x.begin(63);
        CHECK.due("run(1) of " + order + " at 63", x.run(1), 1);
        CHECK.due("reason of " + order + " at 63", x.count(3), reason);
        CHECK.due("place of " + order + " at 63", x.count(1), place);
    }

    private static void reasonsAtTheEnd() {
        CHECK.promise("Promise 8");
        atTheEnd(0, false, 1, 64);
        atTheEnd(105, false, 6, 64);
        atTheEnd(200, false, 6, 64);
        atTheEnd(264, false, 3, 64);
        atTheEnd(300, false, 6, 64);
        atTheEnd(332, false, 6, 64);
        atTheEnd(332, true, 2, 64);
        atTheEnd(463, false, 0, 63);
        atTheEnd(500, false, 0, 0);
        atTheEnd(637, false, 6, 64);
        atTheEnd(709, false, 0, 57);
        atTheEnd(779, false, 0, 57);
        atTheEnd(800, false, 5, 64);
        atTheEnd(900, false, 6, 64);
        FarBanks x = new FarBanks();
        x.put(0, 15, 500);
        x.put(3, 14, 901);
        x.begin(62);
        CHECK.due("run(9) of a zero at 63 that is not taken", x.run(9), 2);
        CHECK.due("reason", x.count(3), 6);
    }

    private static void orderAlone(int order, int number, int place, int window, int bank) {
        FarBanks x = new FarBanks();
        x.put(1, 0, 100 + 5);
        x.put(1, 1, order);
        x.put(2, 1, 30);
        x.begin(16);
        CHECK.due("run(2) of " + order, x.run(2), 2);
        CHECK.due("reason of " + order, x.count(3), 0);
        CHECK.due("number of " + order, x.count(0), number);
        CHECK.due("place of " + order, x.count(1), place);
        for (int other = 0; other < 4; other++) {
            CHECK.due("window(" + other + ") of " + order, x.window(other), other == window ? bank : other);
        }
        boolean isStore = order / 100 == 3;
        CHECK.due("written of " + order, x.count(6), isStore ? 1 : 0);
        CHECK.due("cell(2, 1) of " + order, x.cell(2, 1), order == 333 ? 5 : 30);
        CHECK.due("calls of " + order, x.count(5), order / 100 == 7 ? 1 : 0);
        CHECK.due("frames of " + order, x.count(2), order / 100 == 7 ? 1 : 0);
    }

    private static void eachOrderAlone() {
        CHECK.promise("Promise 8");
        orderAlone(133, 33, 18, 0, 0);
        orderAlone(233, 35, 18, 0, 0);
        orderAlone(333, 5, 18, 0, 0);
        orderAlone(433, 5, 33, 0, 0);
        orderAlone(533, 5, 18, 0, 0);
        orderAlone(607, 5, 18, 0, 7);
        orderAlone(610, 5, 18, 1, 0);
        orderAlone(627, 5, 18, 2, 7);
        orderAlone(631, 5, 18, 3, 1);
        orderAlone(637, 5, 18, 3, 7);
        orderAlone(739, 5, 25, 1, 3);
        orderAlone(779, 5, 25, 1, 7);
        orderAlone(933, 38, 18, 0, 0);
        FarBanks x = new FarBanks();
        x.put(0, 0, 537);
        x.run(1);
        CHECK.due("place of a zero that is taken", x.count(1), 37);
        CHECK.due("window(3) of a zero", x.window(3), 3);
    }

    // Only an object that is used for longer than the document promises comes so far.
    private static void mostSteps() {
        CHECK.promise("Promise 8");
        FarBanks x = new FarBanks();
        x.put(0, 0, 400);
        for (int run = 0; run < 1000; run++) {
            CHECK.due("run(999)", x.run(999), 999);
        }
        CHECK.due("run(998)", x.run(998), 998);
        CHECK.due("run(2)", x.run(2), FarBanks.FULL);
        CHECK.due("run(1)", x.run(1), 1);
        CHECK.due("count(4)", x.count(4), 999999);
        CHECK.due("run(1)", x.run(1), FarBanks.FULL);
        CHECK.due("run(1000)", x.run(1000), FarBanks.BAD_VALUE);
        CHECK.due("ifRun(1, 0)", x.ifRun(1, 0), 1);
    }

    private static void selfChangingCode() {
        CHECK.promise("Promise 8");
        FarBanks x = new FarBanks();
        CHECK.code(x, 0, 0, "add 11;store 2;halt;halt");
        x.put(0, 11, 907);
        CHECK.due("run(9)", x.run(9), 4);
        CHECK.due("number", x.count(0), 914);
        CHECK.due("latest(1, 2)", x.latest(1, 2), 907);
        CHECK.due("count(3)", x.count(3), 1);
    }
}
