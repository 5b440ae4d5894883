import java.util.Random;

/** Promises 1 to 24: random runs of up to 512 calls, compared with the model call by call. */
final class ModelTest {
    private static final int RUNS = 1500;
    private static final int CALLS = 512;
    private static final String[] WORDS =
        {"halt", "load", "add", "store", "jump", "zero", "show", "call", "back", "plus"};
    private static final int[] FAR = {-1, -2, -100, Integer.MIN_VALUE, Integer.MAX_VALUE, 1000, 65536};

    private final Check check;
    private final Random random;
    private final FarBanks x = new FarBanks();
    private final Model y = new Model();
    private int calls = 0;

    private ModelTest(Check check, int seed) {
        this.check = check;
        random = new Random(seed);
        check.promise("Random run " + seed);
    }

    public static void main(String[] args) {
        Check check = new Check();
        for (int seed = 1; seed <= RUNS; seed++) {
            new ModelTest(check, seed).play();
        }
        check.close();
    }

    private void play() {
        int code = 20 + random.nextInt(80);
        for (int index = 0; index < code; index++) {
            putOrder();
        }
        while (calls < CALLS) {
            switch (random.nextInt(8)) {
                case 0:
                    act();
                    break;
                case 1:
                    begin();
                    run();
                    break;
                case 2:
                    run();
                    break;
                case 3:
                    if (random.nextInt(4) == 0) {
                        text();
                    }
                    break;
                case 4:
                    history();
                    break;
                default:
                    tell();
                    break;
            }
        }
    }

    private void due(String call, int got, int want) {
        calls++;
        check.due("call " + calls + ", " + call + ",", got, want);
    }

    /** Mostly 0 to most, sometimes just outside or far from it. */
    private int about(int most) {
        int chance = random.nextInt(60);
        return chance == 0 ? most + 1 : chance == 1 ? FAR[random.nextInt(FAR.length)] : random.nextInt(most + 1);
    }

    private int order() {
        int kind = random.nextInt(20);
        int n = random.nextInt(random.nextInt(6) == 0 ? 100 : 64);
        if (kind > 10 && kind < 14) {
            return 700 + random.nextInt(8) * 10 + random.nextInt(10);
        }
        if (kind == 14) {
            return 800;
        }
        if (kind == 15) {
            return 600 + random.nextInt(4) * 10 + random.nextInt(8);
        }
        return (kind == 0 || kind > 15 ? 1 + random.nextInt(9) : kind % 10) * 100 + n;
    }

    private void putOrder() {
        int bank = random.nextInt(8);
        int cell = random.nextInt(16);
        int number = order();
        due("put(" + bank + ", " + cell + ", " + number + ")", x.put(bank, cell, number), y.put(bank, cell, number));
    }

    private void act() {
        int a = about(7);
        int b = about(7);
        int cell = about(15);
        int number = about(999);
        int window = about(3);
        boolean alone = random.nextInt(3) == 0;
        int strict = about(1);
        switch (random.nextInt(6)) {
            case 0:
                due("put(" + a + ", " + cell + ", " + number + ")", x.put(a, cell, number), y.put(a, cell, number));
                break;
            case 1:
                due("lock(" + a + ", " + alone + ")", x.lock(a, alone), y.lock(a, alone));
                break;
            case 2:
                due("show(" + window + ", " + b + ")", x.show(window, b), y.show(window, b));
                break;
            case 3:
                due("copyBank(" + a + ", " + b + ")", x.copyBank(a, b), y.copyBank(a, b));
                break;
            case 4:
                due("set(" + strict + ")", x.set(strict), y.set(strict));
                break;
            default:
                putOrder();
                break;
        }
    }

    private void begin() {
        int place = random.nextInt(10) == 0 ? 60 + random.nextInt(4) : about(63);
        due("begin(" + place + ")", x.begin(place), y.begin(place));
    }

    private void run() {
        int steps = random.nextInt(20) == 0 ? about(999) : 1 + random.nextInt(random.nextInt(3) == 0 ? 40 : 4);
        due("run(" + steps + ")", x.run(steps), y.run(steps));
    }

    private void text() {
        due("clearText()", x.clearText(), y.clearText());
        int most = random.nextInt(5) == 0 ? 90 : 30;
        StringBuilder typed = new StringBuilder();
        while (typed.length() < most && (typed.length() == 0 || random.nextInt(4) > 0)) {
            typed.append(typed.length() == 0 ? "" : ";").append(orderText());
        }
        if (random.nextInt(2) == 0) {
            int index = random.nextInt(typed.length());
            typed.setCharAt(index, "0123456789 ;abceot".charAt(random.nextInt(18)));
        }
        if (random.nextInt(4) == 0) {
            typed.setLength(random.nextInt(typed.length() + 1));
        }
        for (int index = 0; index < typed.length(); index++) {
            due("type", x.type(typed.charAt(index)), y.type(typed.charAt(index)));
        }
        int bank = about(7);
        int cell = about(15);
        String typedText = "\"" + typed + "\"";
        due("assemble(" + bank + ", " + cell + ") of " + typedText, x.assemble(bank, cell), y.assemble(bank, cell));
    }

    private String orderText() {
        int kind = random.nextInt(10);
        int slip = random.nextInt(12) == 0 ? 1 : 0;
        switch (kind) {
            case 0:
            case 8:
                return WORDS[kind];
            case 1:
            case 9:
                return WORDS[kind] + " " + random.nextInt(100 + slip * 50);
            case 6:
                return WORDS[kind] + " " + random.nextInt(4 + slip) + " " + random.nextInt(8 + slip);
            case 7:
                return WORDS[kind] + " " + random.nextInt(8 + slip) + " " + random.nextInt(10 + slip * 3);
            default:
                return WORDS[kind] + " " + random.nextInt(64 + slip * 20);
        }
    }

    private void history() {
        int chance = random.nextInt(8);
        if (chance == 0) {
            due("keep()", x.keep(), y.keep());
        } else if (chance == 1) {
            due("restore()", x.restore(), y.restore());
        } else if (chance < 5) {
            due("undo()", x.undo(), y.undo());
        } else {
            due("backIn()", x.backIn(), y.backIn());
        }
    }

    private void tell() {
        int bank = about(7);
        int cell = about(15);
        int address = about(63);
        int window = about(3);
        int rank = about(random.nextInt(2) == 0 ? 12 : 2);
        int steps = random.nextInt(6) == 0 ? about(999) : 1 + random.nextInt(30);
        int what = about(random.nextInt(2) == 0 ? 3 : 5);
        int counted = about(11);
        String also = ", " + what + ")";
        due("cell(" + bank + ", " + cell + ")", x.cell(bank, cell), y.cell(bank, cell));
        due("address(" + address + also, x.address(address, what), y.address(address, what));
        due("bank(" + bank + also, x.bank(bank, what), y.bank(bank, what));
        due("window(" + window + ")", x.window(window), y.window(window));
        due("frame(" + rank + also, x.frame(rank, what), y.frame(rank, what));
        due("latest(" + rank + also, x.latest(rank, what), y.latest(rank, what));
        due("next(" + what + ")", x.next(what), y.next(what));
        due("ifRun(" + steps + also, x.ifRun(steps, what), y.ifRun(steps, what));
        due("backIn()", x.backIn(), y.backIn());
        due("count(" + counted + ")", x.count(counted), y.count(counted));
    }
}
