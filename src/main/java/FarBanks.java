/**
 * Paged memory of a tiny machine with a window for each far bank, as ../shared/DOC.md promises it.
 * Every row is made in the constructor and used again: no call makes an object.
 */
public final class FarBanks {
    public static final int UNKNOWN = -1;
    public static final int BAD_VALUE = -2;
    public static final int FULL = -3;
    public static final int NOT_POSSIBLE = -4;
    public static final int NONE = -5;

    private static final int BANKS = 8;
    private static final int CELLS = 16;
    private static final int OWN_CELLS = 12;
    private static final int WINDOWS = 4;
    private static final int ADDRESSES = 64;
    private static final int MOST_NUMBER = 999;
    private static final int MOST_FRAMES = 8;
    private static final int KEPT_STEPS = 12;
    private static final int MOST_STEPS_OF_RUN = 999;
    private static final int MOST_STEPS = 999999;
    private static final int MOST_STEPS_BACK = 500;
    private static final int KEPT_STATES = 4;
    private static final int TEXT_LENGTH = 80;
    private static final int FAULTS = -100;

    private static final int HALT = 0;
    private static final int LOAD = 1;
    private static final int ADD = 2;
    private static final int STORE = 3;
    private static final int JUMP = 4;
    private static final int ZERO = 5;
    private static final int SHOW = 6;
    private static final int CALL = 7;
    private static final int BACK = 8;
    private static final int PLUS = 9;
    private static final int KINDS = 10;

    private static final int RUNS = 0;
    private static final int HALTED = 1;
    private static final int WRITE_REFUSED = 2;
    private static final int BEYOND = 3;
    private static final int TOO_MANY_FRAMES = 4;
    private static final int NO_FRAME = 5;
    private static final int OUT_OF_WINDOWS = 6;

    private final Machine now;
    private final Machine trial;
    private final Machine snapshot;
    private final History history;
    private final Text text;
    private final Code code;
    private boolean hasSnapshot;

    public FarBanks() {
        now = new Machine();
        trial = new Machine();
        snapshot = new Machine();
        history = new History();
        text = new Text();
        code = new Code();
    }

    // ---- banks, windows

    public int put(int bank, int cell, int number) {
        if (!isBelow(bank, BANKS) || !isBelow(cell, CELLS)) {
            return UNKNOWN;
        }
        if (number < 0 || number > MOST_NUMBER) {
            return BAD_VALUE;
        }
        int previous = now.banks.numberIn(bank, cell);
        if (previous == number) {
            return NONE;
        }
        history.remember(now);
        now.banks.fill(bank, cell, number);
        return previous;
    }

    public int lock(int bank, boolean alone) {
        if (!isBelow(bank, BANKS)) {
            return UNKNOWN;
        }
        if (now.banks.isAlone(bank) == alone) {
            return NONE;
        }
        history.remember(now);
        now.banks.alone.write(bank, alone ? 1 : 0);
        return now.banks.alone.sum();
    }

    public int show(int window, int bank) {
        if (!isBelow(window, WINDOWS) || !isBelow(bank, BANKS)) {
            return UNKNOWN;
        }
        int previous = now.banks.shown.read(window);
        if (previous == bank) {
            return NONE;
        }
        history.remember(now);
        now.banks.shown.write(window, bank);
        return previous;
    }

    public int copyBank(int from, int to) {
        if (!isBelow(from, BANKS) || !isBelow(to, BANKS)) {
            return UNKNOWN;
        }
        int different = now.banks.differencesOf(from, to);
        if (different == 0) {
            return NONE;
        }
        history.remember(now);
        now.banks.copyCells(from, to);
        return different;
    }

    public int set(int strict) {
        if (!isBelow(strict, 2)) {
            return BAD_VALUE;
        }
        int previous = now.strict;
        if (previous == strict) {
            return NONE;
        }
        history.remember(now);
        now.strict = strict;
        return previous;
    }

    // ---- running

    public int begin(int place) {
        if (!isBelow(place, ADDRESSES)) {
            return UNKNOWN;
        }
        int previous = now.place;
        history.remember(now);
        now.startAt(place);
        return previous;
    }

    public int run(int steps) {
        if (!isStepsOfRun(steps)) {
            return BAD_VALUE;
        }
        if (now.reason != RUNS) {
            return NOT_POSSIBLE;
        }
        if (now.trail.total + steps > MOST_STEPS) {
            return FULL;
        }
        history.remember(now);
        return now.takeSteps(steps);
    }

    // ---- texts

    public int type(char character) {
        if (text.isFull()) {
            return FULL;
        }
        text.append(character);
        return text.length;
    }

    public int clearText() {
        int previous = text.length;
        text.length = 0;
        return previous;
    }

    public int assemble(int bank, int cell) {
        if (!isBelow(bank, BANKS) || !isBelow(cell, CELLS)) {
            return UNKNOWN;
        }
        code.readFrom(text);
        if (!code.isSound) {
            return FAULTS - code.position;
        }
        if (code.size > CELLS - cell) {
            return FULL;
        }
        history.remember(now);
        for (int index = 0; index < code.size; index++) {
            now.banks.fill(bank, cell + index, code.orders.read(index));
        }
        return code.size;
    }

    // ---- history

    public int undo() {
        if (history.size == 0) {
            return NONE;
        }
        history.bringBack(now);
        return history.size;
    }

    public int keep() {
        snapshot.copyFrom(now);
        hasSnapshot = true;
        return now.place;
    }

    public int restore() {
        if (!hasSnapshot) {
            return NONE;
        }
        history.remember(now);
        now.copyFrom(snapshot);
        return now.place;
    }

    // ---- what is told

    public int cell(int bank, int cell) {
        if (!isBelow(bank, BANKS) || !isBelow(cell, CELLS)) {
            return UNKNOWN;
        }
        return now.banks.numberIn(bank, cell);
    }

    public int address(int address, int what) {
        if (!isBelow(address, ADDRESSES)) {
            return UNKNOWN;
        }
        switch (what) {
            case 0:
                return now.banks.numberAt(address);
            case 1:
                return now.banks.bankAt(address);
            case 2:
                return address % CELLS;
            case 3:
                return now.banks.twinOf(address);
            default:
                return BAD_VALUE;
        }
    }

    public int bank(int bank, int what) {
        if (!isBelow(bank, BANKS)) {
            return UNKNOWN;
        }
        switch (what) {
            case 0:
                return now.banks.alone.read(bank);
            case 1:
                return now.banks.windowsOf(bank);
            case 2:
                return now.banks.usedCellsOf(bank);
            case 3:
                return now.frames.howManyBackTo(bank);
            case 4:
                return now.banks.written.read(bank);
            case 5:
                return now.banks.refused.read(bank);
            default:
                return BAD_VALUE;
        }
    }

    public int window(int window) {
        return isBelow(window, WINDOWS) ? now.banks.shown.read(window) : UNKNOWN;
    }

    public int frame(int rank, int what) {
        if (rank < 0 || !isBelow(what, 3)) {
            return BAD_VALUE;
        }
        if (rank >= now.frames.size) {
            return NONE;
        }
        return now.frames.tell(rank, what);
    }

    public int latest(int rank, int what) {
        if (rank < 0 || !isBelow(what, 3)) {
            return BAD_VALUE;
        }
        if (rank >= Math.min(now.trail.total, KEPT_STEPS)) {
            return NONE;
        }
        return now.trail.tell(rank, what);
    }

    public int next(int what) {
        if (!isBelow(what, 3)) {
            return BAD_VALUE;
        }
        if (now.reason != RUNS) {
            return NONE;
        }
        if (what == 0) {
            return now.banks.numberAt(now.place);
        }
        trial.copyFrom(now);
        trial.step();
        return what == 1 ? trial.reason : trial.place;
    }

    public int ifRun(int steps, int what) {
        if (!isStepsOfRun(steps) || !isBelow(what, 5)) {
            return BAD_VALUE;
        }
        if (now.reason != RUNS) {
            return NOT_POSSIBLE;
        }
        trial.copyFrom(now);
        int taken = trial.takeSteps(steps);
        switch (what) {
            case 0:
                return taken;
            case 1:
                return trial.reason;
            case 2:
                return trial.number;
            case 3:
                return trial.frames.size;
            default:
                return trial.banks.cells.differencesTo(now.banks.cells);
        }
    }

    public int backIn() {
        int frames = now.frames.size;
        if (frames == 0) {
            return NONE;
        }
        trial.copyFrom(now);
        for (int taken = 1; taken <= MOST_STEPS_BACK && trial.reason == RUNS; taken++) {
            trial.step();
            if (trial.frames.size < frames) {
                return taken;
            }
        }
        return NONE;
    }

    public int count(int what) {
        switch (what) {
            case 0:
                return now.number;
            case 1:
                return now.place;
            case 2:
                return now.frames.size;
            case 3:
                return now.reason;
            case 4:
                return now.trail.total;
            case 5:
                return now.calls;
            case 6:
                return now.banks.written.sum();
            case 7:
                return now.banks.refused.sum();
            case 8:
                return now.banks.alone.sum();
            case 9:
                return now.strict;
            case 10:
                return history.size;
            case 11:
                return text.length;
            default:
                return BAD_VALUE;
        }
    }

    private static boolean isBelow(int value, int limit) {
        return value >= 0 && value < limit;
    }

    private static boolean isStepsOfRun(int steps) {
        return steps >= 1 && steps <= MOST_STEPS_OF_RUN;
    }

    /** Numbers in a row: outside it nothing is written, and 0 is read. */
    private static final class Row {
        private final int[] numbers;

        Row(int length) {
            numbers = new int[Math.max(length, 0)];
        }

        int read(int index) {
            return index >= 0 && index < numbers.length ? numbers[index] : 0;
        }

        void write(int index, int number) {
            if (index >= 0 && index < numbers.length) {
                numbers[index] = number;
            }
        }

        int sum() {
            int sum = 0;
            for (int number : numbers) {
                sum += number;
            }
            return sum;
        }

        int differencesTo(Row other) {
            int different = 0;
            for (int index = 0; index < numbers.length; index++) {
                if (numbers[index] != other.read(index)) {
                    different++;
                }
            }
            return different;
        }

        void copyFrom(Row other) {
            System.arraycopy(other.numbers, 0, numbers, 0, Math.min(numbers.length, other.numbers.length));
        }
    }

    /** The cells of all banks, the windows that show them, and the accounts of what was written. */
    private static final class Banks {
        // The common part stands once, behind the own cells of all banks.
        private final Row cells = new Row(BANKS * OWN_CELLS + CELLS - OWN_CELLS);
        private final Row alone = new Row(BANKS);
        private final Row shown = new Row(WINDOWS);
        private final Row written = new Row(BANKS);
        private final Row refused = new Row(BANKS);

        Banks() {
            for (int window = 0; window < WINDOWS; window++) {
                shown.write(window, window);
            }
        }

        void copyFrom(Banks other) {
            cells.copyFrom(other.cells);
            alone.copyFrom(other.alone);
            shown.copyFrom(other.shown);
            written.copyFrom(other.written);
            refused.copyFrom(other.refused);
        }

        int numberIn(int bank, int cell) {
            return cells.read(indexOf(bank, cell));
        }

        void fill(int bank, int cell, int number) {
            cells.write(indexOf(bank, cell), number);
        }

        int bankAt(int address) {
            return shown.read(address / CELLS);
        }

        int numberAt(int address) {
            return numberIn(bankAt(address), address % CELLS);
        }

        // The bank of the window decides and is charged, also for the common part.
        boolean storeUnlessAlone(int address, int number) {
            int bank = bankAt(address);
            if (isAlone(bank)) {
                refused.write(bank, refused.read(bank) + 1);
                return false;
            }
            fill(bank, address % CELLS, number);
            written.write(bank, written.read(bank) + 1);
            return true;
        }

        boolean isAlone(int bank) {
            return alone.read(bank) == 1;
        }

        int differencesOf(int from, int to) {
            int different = 0;
            for (int cell = 0; cell < OWN_CELLS; cell++) {
                if (numberIn(from, cell) != numberIn(to, cell)) {
                    different++;
                }
            }
            return different;
        }

        void copyCells(int from, int to) {
            for (int cell = 0; cell < OWN_CELLS; cell++) {
                fill(to, cell, numberIn(from, cell));
            }
        }

        int twinOf(int address) {
            int cell = address % CELLS;
            for (int window = 0; window < WINDOWS; window++) {
                int other = window * CELLS + cell;
                boolean isSameCell = cell >= OWN_CELLS || bankAt(other) == bankAt(address);
                if (other != address && isSameCell) {
                    return other;
                }
            }
            return NONE;
        }

        int windowsOf(int bank) {
            int windows = 0;
            for (int window = 0; window < WINDOWS; window++) {
                if (shown.read(window) == bank) {
                    windows |= 1 << window;
                }
            }
            return windows;
        }

        int usedCellsOf(int bank) {
            int used = 0;
            for (int cell = 0; cell < OWN_CELLS; cell++) {
                if (numberIn(bank, cell) != 0) {
                    used++;
                }
            }
            return used;
        }

        private static int indexOf(int bank, int cell) {
            return cell < OWN_CELLS ? bank * OWN_CELLS + cell : BANKS * OWN_CELLS + cell - OWN_CELLS;
        }
    }

    /** The frames of calls, the latest one last. */
    private static final class Frames {
        private static final int WINDOW = 0;
        private static final int BANK = 1;
        private static final int PLACE = 2;
        private static final int PARTS = 3;

        private final Row parts = new Row(MOST_FRAMES * PARTS);
        private int size;

        void copyFrom(Frames other) {
            parts.copyFrom(other.parts);
            size = other.size;
        }

        void add(int window, int bank, int place) {
            int start = size * PARTS;
            parts.write(start + WINDOW, window);
            parts.write(start + BANK, bank);
            parts.write(start + PLACE, place);
            size++;
        }

        int tell(int rank, int what) {
            return parts.read((size - 1 - rank) * PARTS + what);
        }

        int howManyBackTo(int bank) {
            int many = 0;
            for (int rank = 0; rank < size; rank++) {
                if (tell(rank, BANK) == bank) {
                    many++;
                }
            }
            return many;
        }
    }

    /** The latest steps, and how many there were in all. */
    private static final class Trail {
        private static final int ADDRESS = 0;
        private static final int BANK = 1;
        private static final int ORDER = 2;
        private static final int PARTS = 3;

        private final Row parts = new Row(KEPT_STEPS * PARTS);
        private int total;

        void copyFrom(Trail other) {
            parts.copyFrom(other.parts);
            total = other.total;
        }

        // A step comes into the place of the one that was 12 steps ahead of it.
        void add(int address, int bank, int order) {
            int start = total % KEPT_STEPS * PARTS;
            parts.write(start + ADDRESS, address);
            parts.write(start + BANK, bank);
            parts.write(start + ORDER, order);
            total++;
        }

        int tell(int rank, int what) {
            return parts.read((total - 1 - rank) % KEPT_STEPS * PARTS + what);
        }
    }

    /** A state: everything but the text, the history and the snapshot. */
    private static final class Machine {
        private final Banks banks = new Banks();
        private final Frames frames = new Frames();
        private final Trail trail = new Trail();
        private int number;
        private int place;
        private int reason;
        private int strict;
        private int calls;

        void copyFrom(Machine other) {
            banks.copyFrom(other.banks);
            frames.copyFrom(other.frames);
            trail.copyFrom(other.trail);
            number = other.number;
            place = other.place;
            reason = other.reason;
            strict = other.strict;
            calls = other.calls;
        }

        void startAt(int start) {
            place = start;
            number = 0;
            reason = RUNS;
            frames.size = 0;
        }

        int takeSteps(int most) {
            int taken = 0;
            while (taken < most && reason == RUNS) {
                step();
                taken++;
            }
            return taken;
        }

        void step() {
            int from = place;
            int order = banks.numberAt(from);
            int kind = order / 100;
            int n = order % 100;
            trail.add(from, banks.bankAt(from), order);
            place = from + 1;
            reason = hindranceOf(kind, n);
            if (reason == RUNS) {
                carryOut(kind, n, from / CELLS);
            }
            if (reason == RUNS && place == ADDRESSES) {
                reason = OUT_OF_WINDOWS;
            }
        }

        private int hindranceOf(int kind, int n) {
            if (isBeyond(kind, n)) {
                return BEYOND;
            }
            if (kind == CALL && frames.size >= MOST_FRAMES) {
                return TOO_MANY_FRAMES;
            }
            if (kind == BACK && frames.size == 0) {
                return NO_FRAME;
            }
            return RUNS;
        }

        private static boolean isBeyond(int kind, int n) {
            switch (kind) {
                case ADD:
                case STORE:
                case JUMP:
                case ZERO:
                    return n >= ADDRESSES;
                case SHOW:
                    return n / 10 >= WINDOWS || n % 10 >= BANKS;
                case CALL:
                    return n / 10 >= BANKS;
                default:
                    return false;
            }
        }

        private void carryOut(int kind, int n, int window) {
            switch (kind) {
                case LOAD:
                    number = n;
                    break;
                case ADD:
                    increase(banks.numberAt(n));
                    break;
                case STORE:
                    reason = banks.storeUnlessAlone(n, number) || strict == 0 ? RUNS : WRITE_REFUSED;
                    break;
                case JUMP:
                    place = n;
                    break;
                case ZERO:
                    place = number == 0 ? n : place;
                    break;
                case SHOW:
                    banks.shown.write(n / 10, n % 10);
                    break;
                case CALL:
                    callFrom(window, n);
                    break;
                case BACK:
                    comeBack();
                    break;
                case PLUS:
                    increase(n);
                    break;
                default:
                    reason = HALTED;
                    break;
            }
        }

        private void increase(int by) {
            int sum = number + by;
            number = sum > MOST_NUMBER ? sum - MOST_NUMBER - 1 : sum;
        }

        private void callFrom(int window, int n) {
            frames.add(window, banks.shown.read(window), place);
            banks.shown.write(window, n / 10);
            place = window * CELLS + n % 10;
            calls++;
        }

        private void comeBack() {
            banks.shown.write(frames.tell(0, Frames.WINDOW), frames.tell(0, Frames.BANK));
            place = frames.tell(0, Frames.PLACE);
            frames.size--;
        }
    }

    /** The states before the latest acts, the latest one last. */
    private static final class History {
        private final Machine[] states = new Machine[KEPT_STATES];
        private int size;

        History() {
            for (int index = 0; index < states.length; index++) {
                states[index] = new Machine();
            }
        }

        void remember(Machine state) {
            if (size == KEPT_STATES) {
                dropOldest();
            }
            if (size >= 0 && size < states.length) {
                states[size].copyFrom(state);
                size++;
            }
        }

        void bringBack(Machine state) {
            if (size > 0 && size <= states.length) {
                size--;
                state.copyFrom(states[size]);
            }
        }

        private void dropOldest() {
            // The oldest state is used again for the one that comes.
            Machine oldest = states[0];
            for (int index = 1; index < states.length; index++) {
                states[index - 1] = states[index];
            }
            states[states.length - 1] = oldest;
            size--;
        }
    }

    /** The text that is typed. */
    private static final class Text {
        private static final int END = -1;

        private final char[] characters = new char[TEXT_LENGTH];
        private int length;

        boolean isFull() {
            return length >= TEXT_LENGTH;
        }

        void append(char character) {
            if (length >= 0 && length < characters.length) {
                characters[length] = character;
                length++;
            }
        }

        int at(int index) {
            return index >= 0 && index < length && index < characters.length ? characters[index] : END;
        }
    }

    /** The orders of a text; if it is not sound, the position is its fault. */
    private static final class Code {
        private static final int NO_NUMBER = -1;

        // A text of 80 characters has at most 16 orders.
        private final Row orders = new Row(CELLS);
        private int size;
        private int position;
        private boolean isSound;

        void readFrom(Text text) {
            size = 0;
            position = 0;
            boolean isMore = true;
            while (isMore && size < TEXT_LENGTH) {
                orders.write(size, readOrder(text));
                size++;
                isMore = isSound && text.at(position) == ';';
                position += isMore ? 1 : 0;
            }
            isSound = isSound && text.at(position) == Text.END;
        }

        private int readOrder(Text text) {
            int kind = readKind(text);
            int n = 0;
            if (isSound && mostFirst(kind) != NO_NUMBER) {
                n = readNumber(text, mostFirst(kind));
            }
            if (isSound && mostSecond(kind) != NO_NUMBER) {
                n = n * 10 + readNumber(text, mostSecond(kind));
            }
            return kind * 100 + n;
        }

        // No word is the beginning of another one, so the longest beginning tells the fault, too.
        private int readKind(Text text) {
            int longest = 0;
            int found = 0;
            for (int kind = 0; kind < KINDS; kind++) {
                int length = lengthOfBeginning(text, wordOf(kind));
                if (length > longest) {
                    longest = length;
                    found = kind;
                }
            }
            position += longest;
            isSound = longest == wordOf(found).length();
            return found;
        }

        private int lengthOfBeginning(Text text, String word) {
            int length = 0;
            while (length < word.length() && text.at(position + length) == word.charAt(length)) {
                length++;
            }
            return length;
        }

        // A digit that can't belong to the number is left: what has to follow then tells the fault.
        private int readNumber(Text text, int most) {
            isSound = text.at(position) == ' ';
            if (!isSound) {
                return 0;
            }
            position++;
            int number = digitAt(text, position);
            isSound = number >= 0 && number <= most;
            if (!isSound) {
                return 0;
            }
            position++;
            int second = digitAt(text, position);
            if (number > 0 && second >= 0 && number * 10 + second <= most) {
                number = number * 10 + second;
                position++;
            }
            return number;
        }

        private static int digitAt(Text text, int index) {
            int character = text.at(index);
            return character >= '0' && character <= '9' ? character - '0' : NO_NUMBER;
        }

        private static int mostFirst(int kind) {
            switch (kind) {
                case LOAD:
                case PLUS:
                    return 99;
                case ADD:
                case STORE:
                case JUMP:
                case ZERO:
                    return ADDRESSES - 1;
                case SHOW:
                    return WINDOWS - 1;
                case CALL:
                    return BANKS - 1;
                default:
                    return NO_NUMBER;
            }
        }

        private static int mostSecond(int kind) {
            switch (kind) {
                case SHOW:
                    return BANKS - 1;
                case CALL:
                    return 9;
                default:
                    return NO_NUMBER;
            }
        }

        private static String wordOf(int kind) {
            switch (kind) {
                case HALT:
                    return "halt";
                case LOAD:
                    return "load";
                case ADD:
                    return "add";
                case STORE:
                    return "store";
                case JUMP:
                    return "jump";
                case ZERO:
                    return "zero";
                case SHOW:
                    return "show";
                case CALL:
                    return "call";
                case BACK:
                    return "back";
                default:
                    return "plus";
            }
        }
    }
}
