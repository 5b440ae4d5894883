import java.util.ArrayDeque;
import java.util.ArrayList;
import java.util.Arrays;
import java.util.List;
import java.util.regex.Matcher;
import java.util.regex.Pattern;

/**
 * The document once more, as plainly as the Java library allows, to compare random runs with: the
 * common part stands in every bank, each state is a copy of its own, and a regular expression reads texts.
 */
final class Model {
    private static final String TO_99 = "(0|[1-9][0-9]?)";
    private static final String TO_63 = "(0|[1-9]|[1-5][0-9]|6[0-3])";
    private static final String ORDER = "(halt|load " + TO_99 + "|(add|store|jump|zero) " + TO_63
        + "|show [0-3] [0-7]|call [0-7] [0-9]|back|plus " + TO_99 + ")";
    private static final Pattern CODE = Pattern.compile(ORDER + "(;" + ORDER + ")*");
    private static final List<String> WORDS =
        List.of("halt", "load", "add", "store", "jump", "zero", "show", "call", "back", "plus");

    private static final class State {
        int[][] cells = new int[8][16];
        boolean[] alone = new boolean[8];
        int[] windows = {0, 1, 2, 3};
        int[] written = new int[8];
        int[] refused = new int[8];
        List<int[]> frames = new ArrayList<>();
        List<int[]> steps = new ArrayList<>();
        int number;
        int place;
        int reason;
        int strict;
        int calls;

        State copy() {
            State copy = new State();
            for (int bank = 0; bank < 8; bank++) {
                copy.cells[bank] = cells[bank].clone();
            }
            copy.alone = alone.clone();
            copy.windows = windows.clone();
            copy.written = written.clone();
            copy.refused = refused.clone();
            copy.frames = new ArrayList<>(frames);
            copy.steps = new ArrayList<>(steps);
            copy.number = number;
            copy.place = place;
            copy.reason = reason;
            copy.strict = strict;
            copy.calls = calls;
            return copy;
        }

        void into(int bank, int cell, int value) {
            for (int other = 0; other < 8; other++) {
                if (other == bank || cell > 11) {
                    cells[other][cell] = value;
                }
            }
        }

        int at(int address) {
            return cells[windows[address / 16]][address % 16];
        }

        void step() {
            int window = place / 16;
            int order = at(place);
            steps.add(new int[] {place, windows[window], order});
            place++;
            reason = done(order / 100, order % 100, window);
            if (reason == 0 && place == 64) {
                reason = 6;
            }
        }

        private int done(int kind, int n, int window) {
            boolean isAddress = kind >= 2 && kind <= 5;
            if (isAddress && n > 63 || kind == 6 && (n > 39 || n % 10 > 7) || kind == 7 && n > 79) {
                return 3;
            }
            switch (kind) {
                case 0: return 1;
                case 1: number = n; return 0;
                case 2: number = (number + at(n)) % 1000; return 0;
                case 3: return store(n);
                case 4: place = n; return 0;
                case 5: if (number == 0) place = n; return 0;
                case 6: windows[n / 10] = n % 10; return 0;
                case 7:
                    if (frames.size() == 8) return 4;
                    frames.add(new int[] {window, windows[window], place});
                    windows[window] = n / 10;
                    place = window * 16 + n % 10;
                    calls++;
                    return 0;
                case 8:
                    if (frames.isEmpty()) return 5;
                    int[] frame = frames.remove(frames.size() - 1);
                    windows[frame[0]] = frame[1];
                    place = frame[2];
                    return 0;
                default: number = (number + n) % 1000; return 0;
            }
        }

        private int store(int address) {
            int bank = windows[address / 16];
            if (alone[bank]) {
                refused[bank]++;
                return strict == 1 ? 2 : 0;
            }
            written[bank]++;
            into(bank, address % 16, number);
            return 0;
        }

        int walk(int most) {
            int taken = 0;
            while (reason == 0 && taken < most) {
                step();
                taken++;
            }
            return taken;
        }
    }

    private State state = new State();
    private State snapshot = null;
    private final ArrayDeque<State> history = new ArrayDeque<>();
    private String text = "";

    private void act() {
        history.addLast(state.copy());
        if (history.size() > 4) {
            history.removeFirst();
        }
    }

    private static boolean in(int value, int most) {
        return 0 <= value && value <= most;
    }

    int put(int bank, int cell, int number) {
        if (!in(bank, 7) || !in(cell, 15)) return -1;
        if (!in(number, 999)) return -2;
        int old = state.cells[bank][cell];
        if (old == number) return -5;
        act();
        state.into(bank, cell, number);
        return old;
    }

    int lock(int bank, boolean alone) {
        if (!in(bank, 7)) return -1;
        if (state.alone[bank] == alone) return -5;
        act();
        state.alone[bank] = alone;
        return count(8);
    }

    int show(int window, int bank) {
        if (!in(window, 3) || !in(bank, 7)) return -1;
        int old = state.windows[window];
        if (old == bank) return -5;
        act();
        state.windows[window] = bank;
        return old;
    }

    int copyBank(int from, int to) {
        if (!in(from, 7) || !in(to, 7)) return -1;
        int different = 0;
        for (int cell = 0; cell < 16; cell++) {
            different += state.cells[from][cell] != state.cells[to][cell] ? 1 : 0;
        }
        if (different == 0) return -5;
        act();
        state.cells[to] = state.cells[from].clone();
        return different;
    }

    int set(int strict) {
        if (!in(strict, 1)) return -2;
        int old = state.strict;
        if (old == strict) return -5;
        act();
        state.strict = strict;
        return old;
    }

    int begin(int place) {
        if (!in(place, 63)) return -1;
        act();
        int old = state.place;
        state.place = place;
        state.number = 0;
        state.reason = 0;
        state.frames.clear();
        return old;
    }

    int run(int steps) {
        if (!in(steps - 1, 998)) return -2;
        if (state.reason != 0) return -4;
        if (state.steps.size() + steps > 999999) return -3;
        act();
        return state.walk(steps);
    }

    int type(char character) {
        if (text.length() == 80) return -3;
        text += character;
        return text.length();
    }

    int clearText() {
        int old = text.length();
        text = "";
        return old;
    }

    static int fault(String text) {
        for (int length = 1; length <= text.length(); length++) {
            Matcher matcher = CODE.matcher(text.substring(0, length));
            if (!matcher.matches() && !matcher.hitEnd()) {
                return length - 1;
            }
        }
        return CODE.matcher(text).matches() ? -1 : text.length();
    }

    private static int translated(String order) {
        String[] parts = order.split(" ");
        int n = 0;
        for (int part = 1; part < parts.length; part++) {
            n = n * 10 + Integer.parseInt(parts[part]);
        }
        return WORDS.indexOf(parts[0]) * 100 + n;
    }

    int assemble(int bank, int cell) {
        if (!in(bank, 7) || !in(cell, 15)) return -1;
        int fault = fault(text);
        if (fault >= 0) return -100 - fault;
        String[] orders = text.split(";");
        if (cell + orders.length - 1 > 15) return -3;
        act();
        for (int index = 0; index < orders.length; index++) {
            state.into(bank, cell + index, translated(orders[index]));
        }
        return orders.length;
    }

    int undo() {
        if (history.isEmpty()) return -5;
        state = history.removeLast();
        return history.size();
    }

    int keep() {
        snapshot = state.copy();
        return state.place;
    }

    int restore() {
        if (snapshot == null) return -5;
        act();
        state = snapshot.copy();
        return state.place;
    }

    int cell(int bank, int cell) {
        return in(bank, 7) && in(cell, 15) ? state.cells[bank][cell] : -1;
    }

    int address(int address, int what) {
        if (!in(address, 63)) return -1;
        if (!in(what, 3)) return -2;
        int twin = -5;
        for (int other = 63; other >= 0; other--) {
            boolean isSame = other % 16 == address % 16
                && (other % 16 > 11 || state.windows[other / 16] == state.windows[address / 16]);
            twin = isSame && other != address ? other : twin;
        }
        return new int[] {state.at(address), state.windows[address / 16], address % 16, twin}[what];
    }

    int bank(int bank, int what) {
        if (!in(bank, 7)) return -1;
        if (!in(what, 5)) return -2;
        int windows = 0;
        for (int window = 0; window < 4; window++) {
            windows += state.windows[window] == bank ? (int) Math.pow(2, window) : 0;
        }
        int used = (int) Arrays.stream(state.cells[bank]).limit(12).filter(number -> number != 0).count();
        int back = (int) state.frames.stream().filter(frame -> frame[1] == bank).count();
        return new int[] {
            state.alone[bank] ? 1 : 0, windows, used, back, state.written[bank], state.refused[bank]}[what];
    }

    int window(int window) {
        return in(window, 3) ? state.windows[window] : -1;
    }

    private static int ranked(List<int[]> rows, int kept, int rank, int what) {
        if (rank < 0 || !in(what, 2)) return -2;
        if (rank >= rows.size() || rank >= kept) return -5;
        return rows.get(rows.size() - 1 - rank)[what];
    }

    int frame(int rank, int what) {
        return ranked(state.frames, 8, rank, what);
    }

    int latest(int rank, int what) {
        return ranked(state.steps, 12, rank, what);
    }

    int next(int what) {
        if (!in(what, 2)) return -2;
        if (state.reason != 0) return -5;
        State then = state.copy();
        then.step();
        return new int[] {state.at(state.place), then.reason, then.place}[what];
    }

    int ifRun(int steps, int what) {
        if (!in(steps - 1, 998) || !in(what, 4)) return -2;
        if (state.reason != 0) return -4;
        State then = state.copy();
        int taken = then.walk(steps);
        int different = 0;
        for (int bank = 0; bank < 8; bank++) {
            for (int cell = 0; cell < (bank == 0 ? 16 : 12); cell++) {
                different += then.cells[bank][cell] != state.cells[bank][cell] ? 1 : 0;
            }
        }
        return new int[] {taken, then.reason, then.number, then.frames.size(), different}[what];
    }

    int backIn() {
        State then = state.copy();
        int frames = then.frames.size();
        int taken = 0;
        while (frames > 0 && then.reason == 0 && taken < 500) {
            then.step();
            taken++;
            if (then.frames.size() == frames - 1) return taken;
        }
        return -5;
    }

    int count(int what) {
        if (!in(what, 11)) return -2;
        int alone = 0;
        for (boolean is : state.alone) {
            alone += is ? 1 : 0;
        }
        return new int[] {
            state.number, state.place, state.frames.size(), state.reason, state.steps.size(), state.calls,
            Arrays.stream(state.written).sum(), Arrays.stream(state.refused).sum(), alone, state.strict,
            history.size(), text.length()}[what];
    }
}
