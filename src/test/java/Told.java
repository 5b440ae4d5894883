/** All that an object tells of itself, to compare two objects by, and an object with something to tell. */
final class Told {
    // All of it is asked twice of an object that answers 512 calls.
    private static final int MOST = 210;

    private final int[] numbers = new int[MOST];
    private int size = 0;

    private Told(FarBanks x) {
        cells(x);
        for (int bank = 0; bank < 8; bank++) {
            add(x.bank(bank, 0));
            add(x.bank(bank, 4));
            add(x.bank(bank, 5));
        }
        for (int window = 0; window < 4; window++) {
            add(x.window(window));
        }
        for (int what = 0; what < 3; what++) {
            for (int rank = 0; rank < 8; rank++) {
                add(x.frame(rank, what));
            }
            for (int rank = 0; rank < 12; rank++) {
                add(x.latest(rank, what));
            }
        }
        for (int what = 0; what < 10; what++) {
            add(x.count(what));
        }
    }

    private void cells(FarBanks x) {
        for (int cell = 0; cell < 16; cell++) {
            for (int bank = 0; bank < (cell < 12 ? 8 : 1); bank++) {
                add(x.cell(bank, cell));
            }
        }
    }

    private void add(int number) {
        numbers[size] = number;
        size++;
    }

    /** How many numbers of their states two objects tell otherwise. */
    static int differences(FarBanks x, FarBanks y) {
        Told one = new Told(x);
        Told other = new Told(y);
        int different = 0;
        for (int index = 0; index < one.size; index++) {
            different += one.numbers[index] == other.numbers[index] ? 0 : 1;
        }
        return different;
    }

    /** An object whose machine has stopped for a reason. */
    static FarBanks stopped(int reason) {
        int[] orders = {0, 0, 316, 464, 700, 800, 900};
        int place = reason == 6 ? 63 : 0;
        FarBanks x = new FarBanks();
        x.lock(1, true);
        x.set(1);
        x.put(place / 16, place % 16, orders[reason]);
        x.begin(place);
        x.run(9);
        return x;
    }

    /** An object that runs; in its state every part is another one than at first, and its history is full. */
    static FarBanks busy() {
        FarBanks x = new FarBanks();
        x.put(0, 0, 107);
        x.put(0, 1, 312);
        x.put(0, 2, 332);
        x.put(0, 3, 753);
        x.put(5, 3, 760);
        x.put(6, 0, 902);
        x.put(6, 1, 631);
        x.put(6, 2, 320);
        x.put(6, 3, 800);
        x.put(5, 4, 800);
        x.put(0, 4, 755);
        x.put(5, 5, 333);
        x.lock(2, true);
        x.run(7);
        x.keep();
        x.show(1, 4);
        x.set(1);
        x.put(7, 13, 13);
        return x;
    }

    /** The same with a text. */
    static FarBanks busy(String text) {
        FarBanks x = busy();
        for (int index = 0; index < text.length(); index++) {
            x.type(text.charAt(index));
        }
        return x;
    }
}
