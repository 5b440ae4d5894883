/** What the document's terms say of the machine. */
final class MachineSentences {
    private final Sentences s;

    private MachineSentences(Sentences sentences) {
        s = sentences;
    }

    static void test(Sentences sentences) {
        MachineSentences machine = new MachineSentences(sentences);
        machine.numberAndPlace();
        machine.eightFrames();
        machine.runsOrHasStopped();
        machine.kinds();
        machine.placeBecomesMore();
        machine.numbers();
        machine.stores();
        machine.jumps();
        machine.shows();
        machine.calls();
        machine.backs();
        machine.sums();
        machine.nothingIsDone();
        machine.beyond();
        machine.tooManyFrames();
        machine.noFrame();
        machine.outOfWindows();
        machine.otherReasonsFirst();
        machine.lastStepCounts();
        machine.stoppedMachine();
        machine.setting();
    }

    /** A machine with the order 100 + number in the cell 0 of the bank 0, and another one behind it. */
    private static FarBanks with(int number, int order) {
        FarBanks x = new FarBanks();
        x.put(0, 0, 100 + number);
        x.put(0, 1, order);
        return x;
    }

    /** A machine with eight frames, at the order in the cell 0 of the bank 0. */
    private static FarBanks withEightFrames(int order) {
        FarBanks x = new FarBanks();
        x.put(0, 0, 700);
        x.run(8);
        x.put(0, 0, order);
        return x;
    }

    private void stands(String when, FarBanks x, int number, int place, int reason) {
        s.due("number " + when, x.count(0), number);
        s.due("place " + when, x.count(1), place);
        s.due("reason " + when, x.count(3), reason);
    }

    private void numberAndPlace() {
        s.section("THE MACHINE");
        s.says("The machine has a number (0 to 999; 0 at first),");
        FarBanks x = with(99, 263);
        s.due("number at first", x.count(0), 0);
        x.put(0, 15, 900);
        x.run(2);
        s.due("the largest number", x.count(0), 999);
        s.says("a place (an address; 0 at first),");
        FarBanks y = new FarBanks();
        s.due("place at first", y.count(1), 0);
        y.put(0, 0, 463);
        y.run(1);
        s.due("the largest place of an order", y.count(1), 63);
        s.due("next(0) there", y.next(0), 0);
        y.put(0, 15, 400);
        y.run(1);
        s.due("the smallest place", y.count(1), 0);
    }

    private void eightFrames() {
        s.says("and frames of calls (none at first; at most 8).");
        FarBanks x = new FarBanks();
        s.due("frames at first", x.count(2), 0);
        s.due("frame(0, 0) at first", x.frame(0, 0), FarBanks.NONE);
        x.put(0, 0, 700);
        for (int frames = 1; frames <= 8; frames++) {
            s.due("run(1)", x.run(1), 1);
            s.due("frames", x.count(2), frames);
            s.due("reason with " + frames + " frames", x.count(3), 0);
        }
        s.due("run(1) of one more", x.run(1), 1);
        s.due("frames of one more", x.count(2), 8);
        s.due("reason of one more", x.count(3), 4);
    }

    private void runsOrHasStopped() {
        s.says("It runs, or has stopped for a reason.");
        FarBanks x = new FarBanks();
        s.due("reason at first", x.count(3), 0);
        s.due("run(999)", x.run(999), 1);
        s.due("reason then", x.count(3), 1);
    }

    private void kind(int order, int number, int place, int reason) {
        FarBanks x = with(50, order);
        x.run(2);
        stands("of " + order, x, number, place, reason);
        s.due("latest(0, 2) of " + order, x.latest(0, 2), order);
    }

    private void kinds() {
        s.says("In a step it takes the number of the cell at its place as an order: "
            + "the kind is the number divided by 100, rounded down, and n is what is left.");
        kind(0, 50, 2, 1);
        kind(99, 50, 2, 1);
        kind(100, 0, 2, 0);
        kind(199, 99, 2, 0);
        kind(200, 200, 2, 0);
        kind(299, 50, 2, 3);
        kind(300, 50, 2, 0);
        kind(399, 50, 2, 3);
        kind(400, 50, 0, 0);
        kind(499, 50, 2, 3);
        kind(500, 50, 2, 0);
        kind(599, 50, 2, 3);
        kind(600, 50, 2, 0);
        kind(699, 50, 2, 3);
        kind(700, 50, 0, 0);
        kind(799, 50, 2, 3);
        kind(800, 50, 2, 5);
        kind(899, 50, 2, 5);
        kind(900, 50, 2, 0);
        kind(999, 149, 2, 0);
    }

    private void placeBecomesMore() {
        s.says("Then its place becomes 1 more, and the order is done:");
        FarBanks x = new FarBanks();
        x.put(0, 15, 901);
        x.put(1, 0, 910);
        x.begin(15);
        x.run(1);
        stands("behind the cell 15", x, 1, 16, 0);
        x.run(1);
        stands("in the next window", x, 11, 17, 0);
        FarBanks y = with(7, 700);
        y.run(2);
        s.due("the place that a call keeps is behind it", y.frame(0, 2), 2);
    }

    private void numbers() {
        s.says("0 halt: it stops (reason 1).");
        FarBanks x = with(7, 0);
        s.due("run(9)", x.run(9), 2);
        stands("of a halt", x, 7, 2, 1);
        s.says("1 load: its number becomes n.");
        loads(0, 0);
        loads(99, 99);
        s.says("2 add: the number of the address n is added to its number.");
        adds(200, 5 + 105);
        adds(201, 5 + 201);
        adds(216, 5 + 16);
        adds(262, 5 + 62);
        adds(263, 5 + 15);
        s.says("9 plus: n is added to its number.");
        adds(900, 5);
        adds(901, 6);
        adds(999, 104);
    }

    private void loads(int n, int number) {
        FarBanks x = with(7, 100 + n);
        x.run(2);
        stands("of load " + n, x, number, 2, 0);
    }

    private void adds(int order, int number) {
        FarBanks x = with(5, order);
        x.put(1, 0, 16);
        x.put(3, 14, 62);
        x.put(3, 15, 15);
        x.run(2);
        stands("of " + order, x, number, 2, 0);
    }

    private void stores() {
        s.says("3 store: its number is written to the address n.");
        FarBanks x = with(42, 300);
        x.put(0, 2, 363);
        x.put(0, 3, 316);
        s.due("run(4)", x.run(4), 4);
        stands("behind three stores", x, 42, 4, 0);
        s.due("cell(0, 0)", x.cell(0, 0), 42);
        s.due("cell(3, 15)", x.cell(3, 15), 42);
        s.due("cell(1, 0)", x.cell(1, 0), 42);
        s.due("cell(1, 1)", x.cell(1, 1), 0);
        s.says("If the bank there can be read alone, it is refused: nothing is written,");
        for (int strict = 0; strict < 2; strict++) {
            FarBanks refused = withRefusedStore(strict);
            refused.run(2);
            s.due("cell(1, 0), setting " + strict, refused.cell(1, 0), 9);
            s.due("written, setting " + strict, refused.count(6), 0);
            s.due("refused, setting " + strict, refused.count(7), 1);
        }
        s.says("and it stops (reason 2) if the setting 0 is 1,");
        FarBanks strict = withRefusedStore(1);
        s.due("run(9), setting 1", strict.run(9), 2);
        stands("of a refused store, setting 1", strict, 42, 2, 2);
        FarBanks unlocked = withRefusedStore(1);
        unlocked.lock(1, false);
        s.due("run(9) of a store that is not refused, setting 1", unlocked.run(9), 4);
        stands("of a store that is not refused, setting 1", unlocked, 42, 9, 1);
        s.says("otherwise it goes on.");
        FarBanks lenient = withRefusedStore(0);
        s.due("run(9), setting 0", lenient.run(9), 4);
        stands("behind a refused store, setting 0", lenient, 42, 9, 1);
    }

    private static FarBanks withRefusedStore(int strict) {
        FarBanks x = with(42, 316);
        x.put(0, 2, 408);
        x.put(1, 0, 9);
        x.lock(1, true);
        x.set(strict);
        return x;
    }

    private void jumps() {
        s.says("4 jump: its place becomes n.");
        jumped(7, 400, 0);
        jumped(7, 401, 1);
        jumped(7, 463, 63);
        jumped(0, 463, 63);
        s.says("5 zero: its place becomes n, if its number is 0.");
        jumped(0, 500, 0);
        jumped(0, 563, 63);
        jumped(1, 500, 2);
        jumped(1, 563, 2);
        jumped(99, 563, 2);
        FarBanks x = with(99, 263);
        x.put(0, 15, 901);
        x.put(0, 2, 563);
        x.run(3);
        stands("of a zero with 1000", x, 0, 63, 0);
    }

    private void jumped(int number, int order, int place) {
        FarBanks x = with(number, order);
        x.run(2);
        stands("of " + order + " with " + number, x, number, place, 0);
    }

    private void shows() {
        s.says("6 show: the window n / 10, rounded down, shows the bank n modulo 10 from now on.");
        int[][] rows = {{600, 0, 0}, {607, 0, 7}, {610, 1, 0}, {617, 1, 7}, {630, 3, 0}, {637, 3, 7}};
        for (int[] row : rows) {
            FarBanks x = with(7, row[0]);
            x.run(2);
            stands("of " + row[0], x, 7, 2, 0);
            for (int window = 0; window < 4; window++) {
                int due = window == row[1] ? row[2] : window;
                s.due("window(" + window + ") of " + row[0], x.window(window), due);
            }
        }
        FarBanks y = with(7, 606);
        y.put(0, 2, 900);
        y.put(6, 2, 903);
        y.run(3);
        s.due("number: the bank is swapped under the running code", y.count(0), 10);
        s.due("latest(0, 1)", y.latest(0, 1), 6);
        s.due("latest(1, 1)", y.latest(1, 1), 0);
    }

    private void calls() {
        s.says("7 call: a frame is kept, of the window in which its place was as the order was taken, "
            + "the bank shown there, and its place now.");
        called(0, 4, 779, 0, 1);
        called(16, 5, 700, 1, 17);
        called(15, 0, 753, 0, 16);
        called(47, 7, 753, 2, 48);
        called(62, 1, 753, 3, 63);
        called(63, 7, 753, 3, 64);
        s.says("Then this window shows the bank n / 10, rounded down,");
        lands(0, 779, 7, 9);
        lands(0, 700, 0, 0);
        lands(15, 770, 7, 0);
        s.says("and its place becomes the cell n modulo 10 of this window.");
        lands(17, 709, 0, 25);
        lands(31, 770, 7, 16);
        lands(63, 709, 0, 57);
        lands(63, 700, 0, 48);
    }

    private FarBanks atCall(int place, int bank, int order) {
        FarBanks x = new FarBanks();
        x.show(place / 16, bank);
        x.put(bank, place % 16, order);
        x.begin(place);
        s.due("run(1) of " + order + " at " + place, x.run(1), 1);
        s.due("reason of " + order + " at " + place, x.count(3), 0);
        return x;
    }

    private void called(int place, int bank, int order, int window, int back) {
        FarBanks x = atCall(place, bank, order);
        s.due("frames", x.count(2), 1);
        s.due("frame(0, 0) of a call at " + place, x.frame(0, 0), window);
        s.due("frame(0, 1) of a call at " + place, x.frame(0, 1), bank);
        s.due("frame(0, 2) of a call at " + place, x.frame(0, 2), back);
    }

    private void lands(int place, int order, int bank, int then) {
        FarBanks x = atCall(place, 5, order);
        s.due("place of " + order + " at " + place, x.count(1), then);
        for (int window = 0; window < 4; window++) {
            int due = window == place / 16 ? bank : window;
            s.due("window(" + window + ") of " + order + " at " + place, x.window(window), due);
        }
    }

    private void backs() {
        s.says("8 back: the latest frame goes; its window shows its bank again, "
            + "and its place becomes that of the frame.");
        FarBanks x = new FarBanks();
        x.put(0, 15, 743);
        x.put(4, 3, 752);
        x.put(5, 2, 606);
        x.put(6, 3, 899);
        x.put(4, 4, 432);
        x.put(2, 0, 800);
        x.begin(15);
        x.run(4);
        s.due("window(0) behind a back", x.window(0), 4);
        s.due("place behind a back", x.count(1), 4);
        s.due("frames behind a back", x.count(2), 1);
        s.due("frame(0, 2) of the one that is left", x.frame(0, 2), 16);
        x.run(2);
        s.due("window(0) behind a back from another window", x.window(0), 0);
        s.due("window(2)", x.window(2), 2);
        s.due("place behind a back from another window", x.count(1), 16);
        s.due("frames", x.count(2), 0);
        FarBanks y = withEightFrames(800);
        for (int frames = 7; frames >= 0; frames--) {
            s.due("run(1)", y.run(1), 1);
            s.due("frames", y.count(2), frames);
            s.due("place", y.count(1), 1);
            y.put(0, 1, 800);
        }
        s.due("reason of the last one", y.count(3), 0);
    }

    private void sum(int number, int cell, int due) {
        FarBanks x = with(0, 263);
        x.put(0, 2, 262);
        x.put(0, 14, cell);
        x.put(0, 15, number);
        x.run(3);
        s.due(number + " and " + cell, x.count(0), due);
    }

    private void sums() {
        s.says("Sums above 999 are 1000 less.");
        sum(0, 999, 999);
        sum(998, 1, 999);
        sum(999, 0, 999);
        sum(999, 1, 0);
        sum(500, 500, 0);
        sum(999, 2, 1);
        sum(999, 999, 998);
        int[][] rows = {{0, 900, 900}, {99, 900, 999}, {99, 901, 0}, {99, 999, 98}};
        for (int[] row : rows) {
            FarBanks x = with(0, 263);
            x.put(0, 15, row[1]);
            x.put(0, 2, 900 + row[0]);
            x.run(3);
            s.due(row[1] + " plus " + row[0], x.count(0), row[2]);
        }
    }

    private void stops(FarBanks x, int reason) {
        int number = x.count(0);
        int place = x.count(1);
        int[] before = {x.count(2), x.count(5), x.count(6), x.count(7), x.ifRun(9, 4)};
        String order = x.next(0) + " with the number " + number + " and " + before[0] + " frames";
        s.due("run(9) of " + order, x.run(9), 1);
        s.due("reason of " + order, x.count(3), reason);
        s.due("number of " + order, x.count(0), number);
        s.due("place of " + order, x.count(1), place + 1);
        s.due("frames of " + order, x.count(2), before[0]);
        s.due("calls of " + order, x.count(5), before[1]);
        s.due("written of " + order, x.count(6), before[2]);
        s.due("refused of " + order, x.count(7), before[3]);
        s.due("other cells of " + order, before[4], 0);
        for (int window = 0; window < 4; window++) {
            s.due("window(" + window + ") of " + order, x.window(window), window);
        }
    }

    private static FarBanks at(int number, int order) {
        FarBanks x = with(number, order);
        x.run(1);
        return x;
    }

    private void nothingIsDone() {
        s.says("It stops, and nothing of the order is done but for its place,");
        int[] orders = {264, 299, 364, 399, 464, 499, 564, 599, 640, 647, 608, 638, 699, 780, 799, 800, 899};
        for (int order : orders) {
            stops(at(7, order), order / 100 == 8 ? 5 : 3);
        }
        stops(at(0, 564), 3);
        stops(withEightFrames(770), 4);
        stops(withEightFrames(780), 3);
    }

    private void goesOn(int number, int order) {
        FarBanks x = at(number, order);
        s.due("run(1) of " + order, x.run(1), 1);
        s.due("reason of " + order, x.count(3), 0);
    }

    private void beyond() {
        s.says("with the reason 3 if an address n is above 63");
        for (int kind = 200; kind <= 500; kind += 100) {
            goesOn(0, kind);
            goesOn(0, kind + 63);
            stops(at(0, kind + 64), 3);
            stops(at(0, kind + 70), 3);
            stops(at(0, kind + 99), 3);
        }
        goesOn(0, 164);
        goesOn(0, 199);
        goesOn(0, 999);
        s.says("(also of a zero that would not be taken),");
        goesOn(1, 563);
        stops(at(1, 564), 3);
        stops(at(99, 599), 3);
        s.says("a window above 3,");
        goesOn(0, 637);
        goesOn(0, 600);
        stops(at(0, 640), 3);
        stops(at(0, 690), 3);
        s.says("or a bank above 7");
        goesOn(0, 607);
        stops(at(0, 608), 3);
        stops(at(0, 609), 3);
        stops(at(0, 638), 3);
        goesOn(0, 779);
        goesOn(0, 709);
        stops(at(0, 780), 3);
        stops(at(0, 790), 3);
        s.says("(also of a call that would find 8 frames);");
        stops(withEightFrames(780), 3);
        stops(withEightFrames(799), 3);
    }

    private void tooManyFrames() {
        s.says("with 4 if a call finds 8 frames;");
        stops(withEightFrames(700), 4);
        stops(withEightFrames(779), 4);
        FarBanks x = withEightFrames(800);
        x.run(1);
        x.put(0, 1, 779);
        s.due("run(1) of a call with seven frames", x.run(1), 1);
        s.due("reason of a call with seven frames", x.count(3), 0);
        s.due("frames", x.count(2), 8);
    }

    private void noFrame() {
        s.says("with 5 if back finds none.");
        stops(at(0, 800), 5);
        stops(at(0, 899), 5);
        FarBanks x = new FarBanks();
        x.put(0, 0, 701);
        x.put(0, 1, 800);
        s.due("run(2) of a call and a back", x.run(2), 2);
        s.due("reason with a frame", x.count(3), 0);
        s.due("run(1) of one more back", x.run(1), 1);
        s.due("reason behind the frame", x.count(3), 5);
    }

    private static FarBanks atTheEnd(int order) {
        FarBanks x = new FarBanks();
        x.put(3, 15, order);
        x.begin(63);
        return x;
    }

    private void outOfWindows() {
        s.says("If its place becomes 64, it stops as well (reason 6), behind the order.");
        FarBanks x = new FarBanks();
        x.put(3, 14, 905);
        x.put(3, 15, 906);
        x.begin(62);
        x.run(1);
        stands("behind 62", x, 5, 63, 0);
        s.due("run(9)", x.run(9), 1);
        stands("behind 63", x, 11, 64, 6);
        leaves(300, 64, 6);
        leaves(637, 64, 6);
        leaves(263, 64, 6);
        leaves(463, 63, 0);
        leaves(400, 0, 0);
        leaves(563, 63, 0);
        leaves(779, 57, 0);
        FarBanks notTaken = atTheEnd(500);
        notTaken.put(3, 11, 101);
        notTaken.put(3, 12, 463);
        notTaken.begin(59);
        s.due("run(9) of a zero that is not taken", notTaken.run(9), 3);
        stands("of a zero that is not taken", notTaken, 1, 64, 6);
        FarBanks back = atTheEnd(753);
        back.put(5, 3, 888);
        s.due("run(9) of a back to 64", back.run(9), 2);
        stands("of a back to 64", back, 0, 64, 6);
        s.due("frames of a back to 64", back.count(2), 0);
        s.due("window(3) of a back to 64", back.window(3), 3);
    }

    private void leaves(int order, int place, int reason) {
        FarBanks x = atTheEnd(order);
        s.due("run(1) of " + order + " at 63", x.run(1), 1);
        s.due("place of " + order + " at 63", x.count(1), place);
        s.due("reason of " + order + " at 63", x.count(3), reason);
        s.due("window(3) of " + order, x.window(3), order >= 600 ? 7 : 3);
        s.due("written of " + order, x.count(6), order == 300 ? 1 : 0);
    }

    private void otherReasonsFirst() {
        s.says("(Reasons 1 to 5 come first.)");
        int[][] rows = {{0, 1}, {99, 1}, {264, 3}, {364, 3}, {464, 3}, {564, 3}, {608, 3}, {780, 3}, {800, 5}};
        for (int[] row : rows) {
            FarBanks x = atTheEnd(row[0]);
            s.due("run(9) of " + row[0] + " at 63", x.run(9), 1);
            stands("of " + row[0] + " at 63", x, 0, 64, row[1]);
        }
        for (int strict = 0; strict < 2; strict++) {
            FarBanks x = atTheEnd(348);
            x.lock(3, true);
            x.set(strict);
            x.run(9);
            stands("of a refused store at 63, setting " + strict, x, 0, 64, strict == 1 ? 2 : 6);
        }
        FarBanks y = atTheEnd(709);
        y.put(0, 9, 463);
        s.due("run(99) of calls at 63", y.run(99), 17);
        stands("of a ninth call at 63", y, 0, 64, 4);
    }

    private void lastStep(String what, FarBanks x, int steps, int order, int reason) {
        s.due("run(999), " + what, x.run(999), steps);
        s.due("reason, " + what, x.count(3), reason);
        s.due("count(4), " + what, x.count(4), steps);
        s.due("latest(0, 2), " + what, x.latest(0, 2), order);
        s.due("latest(0, 0), " + what, x.latest(0, 0), x.count(1) - 1);
        s.due("latest of more, " + what, x.latest(steps, 0), FarBanks.NONE);
    }

    private void lastStepCounts() {
        s.says("The step with which it stops is a step like others: it is counted, and told among the latest ones.");
        lastStep("a halt", with(7, 0), 2, 0, 1);
        FarBanks x = with(7, 316);
        x.lock(1, true);
        x.set(1);
        lastStep("a refused store", x, 2, 316, 2);
        lastStep("an address above 63", with(7, 264), 2, 264, 3);
        FarBanks y = new FarBanks();
        y.put(0, 0, 700);
        lastStep("a ninth call", y, 9, 700, 4);
        lastStep("a back", with(7, 800), 2, 800, 5);
        lastStep("the last address", atTheEnd(907), 1, 907, 6);
    }

    private void stoppedMachine() {
        s.says("A machine that has stopped takes no steps, until it is begun anew.");
        FarBanks x = new FarBanks();
        x.run(1);
        x.put(0, 1, 901);
        s.due("run(1)", x.run(1), FarBanks.NOT_POSSIBLE);
        s.due("ifRun(1, 0)", x.ifRun(1, 0), FarBanks.NOT_POSSIBLE);
        s.due("count(4)", x.count(4), 1);
        stands("of a machine that has stopped", x, 0, 1, 1);
        x.show(0, 5);
        x.set(1);
        s.due("run(999) behind acts", x.run(999), FarBanks.NOT_POSSIBLE);
        x.show(0, 0);
        x.begin(1);
        s.due("run(1) of a machine begun anew", x.run(1), 1);
        stands("of a machine begun anew", x, 1, 2, 0);
        for (int reason = 1; reason <= 6; reason++) {
            FarBanks y = Told.stopped(reason);
            int steps = y.count(4);
            s.due("reason", y.count(3), reason);
            s.due("run(1) behind the reason " + reason, y.run(1), FarBanks.NOT_POSSIBLE);
            s.due("steps behind the reason " + reason, y.count(4), steps);
            y.begin(20);
            s.due("run(1) begun anew behind the reason " + reason, y.run(1), 1);
        }
    }

    private void setting() {
        s.says("The setting 0 is 0 or 1; 0 at first.");
        FarBanks x = new FarBanks();
        s.due("count(9) at first", x.count(9), 0);
        s.due("set(0) at first", x.set(0), FarBanks.NONE);
        s.due("set(1)", x.set(1), 0);
        s.due("set(2)", x.set(2), FarBanks.BAD_VALUE);
        s.due("set(-1)", x.set(-1), FarBanks.BAD_VALUE);
        s.due("count(9)", x.count(9), 1);
        s.due("set(0)", x.set(0), 1);
    }
}
