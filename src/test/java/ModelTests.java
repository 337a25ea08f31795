import java.util.ArrayList;
import java.util.List;
import java.util.Random;

/** Random runs of calls, each compared with a slow and simple model that tries all plans there are. */
public final class ModelTests {
    static final int NONE = -1;
    static final int CALLS_OF_AN_OBJECT = 512;
    static final long INDEX = Long.MIN_VALUE;
    static final long ARGUMENT = Long.MIN_VALUE + 1;
    static final long STATE = Long.MIN_VALUE + 2;
    /** Is added to a board of link() to tell that it is one of the last row. */
    static final long LAST_ROW = 1L << 40;
    static final long NOT_THROWN_BY_HAND = Long.MIN_VALUE + 3;

    static int wrong = 0;
    /** The calls by their kinds, the numbers that are used below. */
    static final String[] NAMES = {"append", "clearText", "errorPosition", "load", "about", "call", "link", "at",
        "thanks", "connect", "join", "hang", "drop", "setBroken", "setPatience", "undo", "moves", "open", "fewest",
        "weakest", "runScript", "simulate", "save", "restore"};
    static final int[] answered = new int[NAMES.length];
    static final int[] refused = new int[NAMES.length];

    public static void main(String[] args) {
        for (int seed = 0; seed < 1500; seed++) {
            runOne(seed);
        }
        for (int i = 0; i < answered.length; i++) {
            boolean canThrow = i != 1 && i != 2 && i != 18 && i != 19;
            if (answered[i] == 0 || canThrow && refused[i] == 0) {
                wrong++;
                System.out.println("the runs never saw an answer and an exception of " + NAMES[i]);
            }
        }
        System.out.println(wrong == 0 ? "all answers are as due" : wrong + " answers are not as due");
        if (wrong != 0) {
            System.exit(1);
        }
    }

    static void runOne(int seed) {
        Random random = new Random(seed);
        SwitchRows x = new SwitchRows();
        Model model = new Model();
        StringBuilder told = new StringBuilder();
        String text = randomText(random);
        for (int n = 0; n < CALLS_OF_AN_OBJECT; n++) {
            int[] kind = new int[1];
            long[] a = new long[2];
            if (n < text.length()) {
                kind[0] = 0;
                a[0] = text.charAt(n);
            } else if (n == text.length()) {
                kind[0] = 2;
            } else if (n == text.length() + 1) {
                kind[0] = 3;
            } else {
                choose(random, model, kind, a);
            }
            long want = due(model, kind[0], a[0], a[1]);
            long got = answer(x, kind[0], a[0], a[1]);
            told.append("\n  ").append(NAMES[kind[0]]).append("(").append(a[0]).append(", ").append(a[1]).append(") ").append(want);
            if (want < -1) {
                refused[kind[0]]++;
            } else {
                answered[kind[0]]++;
            }
            if (want != got) {
                wrong++;
                if (wrong < 4) {
                    System.out.println("seed " + seed + ": the last answer was " + got + told);
                }
                return;
            }
        }
    }

    // ---- texts

    static String two(int n) {
        return "" + n / 10 + n % 10;
    }

    /** Boards of all sizes, and every second time those where calls move most: as many middle ones as inputs. */
    static String randomBoards(Random random) {
        if (random.nextBoolean()) {
            int middle = 2 + random.nextInt(3);
            return "C" + (2 + random.nextInt(3)) + middle + middle + (2 + random.nextInt(3)) + "p3";
        }
        return "C" + (1 + random.nextInt(4)) + (1 + random.nextInt(4)) + (1 + random.nextInt(4)) + (1 + random.nextInt(4));
    }

    static String randomText(Random random) {
        StringBuilder text = new StringBuilder(randomBoards(random));
        int first = text.charAt(1) - '0';
        int width = text.charAt(2) - '0';
        int middle = text.charAt(3) - '0';
        int last = text.charAt(4) - '0';
        int commands = random.nextInt(24);
        for (int i = 0; i < commands && text.length() < 115; i++) {
            int y = random.nextInt(last * width);
            switch (random.nextInt(12)) {
                case 0:
                    text.append('h').append(two(random.nextInt(random.nextBoolean() ? 3 : 16)));
                    break;
                case 1:
                    text.append('b').append(random.nextInt(middle));
                    break;
                case 2:
                    text.append('p').append(random.nextInt(4));
                    break;
                case 3:
                case 4:
                    text.append('j').append(two(random.nextInt(random.nextBoolean() ? 3 : 16))).append(two(y));
                    break;
                default:
                    text.append('c').append(two(random.nextInt(first * width))).append(two(y));
                    break;
            }
        }
        if (random.nextInt(4) == 0) {
            String signs = "Ccjhbp0123456789 ";
            text.setCharAt(random.nextInt(text.length()), signs.charAt(random.nextInt(signs.length())));
        }
        if (random.nextInt(10) == 0) {
            text.setLength(random.nextInt(text.length()));
        }
        return text.toString();
    }

    // ---- the choice of the next call

    /** A number from 0 to the last one, or now and then one that is out of range. */
    static int some(Random random, int size) {
        int[] wild = {-1, -1, size, size, size + 1, 16, 100, Integer.MIN_VALUE, Integer.MAX_VALUE};
        return random.nextInt(20) == 0 ? wild[random.nextInt(wild.length)] : random.nextInt(Math.max(1, size));
    }

    static int freeOne(Random random, Model model, boolean output) {
        int size = output ? model.outputs() : model.inputs();
        List<Integer> free = new ArrayList<>();
        for (int i = 0; i < size; i++) {
            if ((output ? model.atOutput(i) : model.atInput(i)) == NONE) {
                free.add(i);
            }
        }
        return free.isEmpty() || random.nextInt(8) == 0 ? some(random, size) : free.get(random.nextInt(free.size()));
    }

    static void choose(Random random, Model model, int[] kind, long[] a) {
        int roll = random.nextInt(100);
        int calls = model.now.calls.size();
        if (roll < 20) {
            kind[0] = 9;
            a[0] = freeOne(random, model, false);
            a[1] = freeOne(random, model, true);
        } else if (roll < 26) {
            kind[0] = 10;
            a[0] = some(random, calls);
            a[1] = freeOne(random, model, true);
        } else if (roll < 36) {
            kind[0] = 11;
            a[0] = some(random, calls);
        } else if (roll < 38) {
            kind[0] = 12;
            a[0] = some(random, model.outputs());
        } else if (roll < 42) {
            kind[0] = 13;
            a[0] = some(random, model.now.middle);
            a[1] = random.nextInt(2);
        } else if (roll < 44) {
            kind[0] = 14;
            a[0] = random.nextInt(3) == 0 ? random.nextInt(6) - 1 : 3;
        } else if (roll < 48) {
            kind[0] = 15;
        } else {
            chooseQuestion(random, model, kind, a);
        }
    }

    static void chooseQuestion(Random random, Model model, int[] kind, long[] a) {
        int calls = model.now.calls.size();
        int[] kinds = {0, 1, 2, 3, 4, 5, 6, 7, 8, 16, 17, 18, 19, 20, 21, 22, 23};
        int[] weights = {3, 1, 2, 1, 12, 12, 12, 8, 12, 10, 3, 5, 5, 8, 4, 2, 2};
        int sum = 0;
        for (int w : weights) {
            sum += w;
        }
        int roll = random.nextInt(sum);
        int k = 0;
        while (roll >= weights[k]) {
            roll -= weights[k];
            k++;
        }
        kind[0] = kinds[k];
        switch (kind[0]) {
            case 0:
                a[0] = random.nextInt(5) == 0 ? random.nextInt(260) - 2 : "Ccjhbp0123".charAt(random.nextInt(10));
                break;
            case 4:
                a[0] = random.nextInt(12) - 1;
                break;
            case 5:
                a[0] = some(random, calls);
                a[1] = random.nextInt(7) - 1;
                break;
            case 6:
                boolean last = random.nextBoolean();
                a[0] = some(random, model.now.middle);
                a[1] = some(random, last ? model.now.last : model.now.first) + (last ? LAST_ROW : 0);
                break;
            case 7:
                a[1] = random.nextInt(2);
                a[0] = some(random, a[1] == 1 ? model.outputs() : model.inputs());
                break;
            case 8:
                a[0] = some(random, model.inputs());
                a[1] = random.nextInt(2);
                break;
            case 16:
                a[0] = freeOne(random, model, false);
                a[1] = freeOne(random, model, true);
                break;
            case 17:
                a[0] = random.nextInt(6) - 1;
                break;
            case 20:
                chooseScript(random, model, a);
                break;
            case 21:
                a[0] = random.nextLong();
                a[1] = random.nextInt(12) == 0 ? random.nextInt(3) * 61 - 1 : 1 + random.nextInt(60);
                break;
            case 22:
            case 23:
                a[0] = some(random, 2);
                break;
            default:
                break;
        }
    }

    static void chooseScript(Random random, Model model, long[] a) {
        int n = random.nextInt(15) == 0 ? random.nextInt(2) * 4 : 1 + random.nextInt(3);
        long script = 0;
        for (int i = 0; i < n; i++) {
            script = script * 100000 + randomGroup(random, model);
        }
        if (random.nextInt(15) == 0) {
            script = random.nextBoolean() ? -script : script * 100;
        }
        a[0] = n;
        a[1] = script;
    }

    static long randomGroup(Random random, Model model) {
        int calls = model.now.calls.size();
        int c = some(random, calls) & 31;
        int x = freeOne(random, model, false) & 31;
        int y = freeOne(random, model, true) & 31;
        long group;
        switch (random.nextInt(11)) {
            case 0:
            case 1:
                group = 10000 + 100 * x + y;
                break;
            case 2:
                group = 20000 + 100 * c + y;
                break;
            case 3:
                group = 30000 + 100 * c;
                break;
            case 4:
                group = 40000 + random.nextInt(model.outputs());
                break;
            case 5:
                group = 50000 + 1000 * random.nextInt(model.now.middle) + 100 * random.nextInt(2);
                break;
            case 6:
                group = 60000 + random.nextInt(4);
                break;
            case 7:
                group = 70000 + 100 * c + random.nextInt(4);
                break;
            case 8:
                group = 80000 + Math.max(0, model.linksTaken() + random.nextInt(3) - 1);
                break;
            case 9:
                group = 90000 + Math.max(0, calls + random.nextInt(3) - 1);
                break;
            default:
                group = random.nextInt(100000);
                break;
        }
        if (random.nextInt(10) == 0) {
            int[] places = {1, 10, 100, 1000};
            group = (group + places[random.nextInt(4)]) % 100000;
        }
        return group;
    }

    // ---- the two sides

    static long answer(SwitchRows x, int kind, long a, long b) {
        int i = (int) a;
        int j = (int) b;
        try {
            switch (kind) {
                case 0: return x.append(i);
                case 1: return x.clearText();
                case 2: return x.errorPosition();
                case 3: return x.load();
                case 4: return x.about(i);
                case 5: return x.call(i, j);
                case 6: return x.link(b >= LAST_ROW / 2, i, (int) (b >= LAST_ROW / 2 ? b - LAST_ROW : b));
                case 7: return x.at(j == 1, i);
                case 8: return x.thanks(i, j == 1);
                case 9: return x.connect(i, j);
                case 10: return x.join(i, j);
                case 11: return x.hang(i);
                case 12: return x.drop(i);
                case 13: return x.setBroken(i, j == 1);
                case 14: return x.setPatience(i);
                case 15: return x.undo();
                case 16: return x.moves(i, j);
                case 17: return x.open(i);
                case 18: return x.fewest();
                case 19: return x.weakest();
                case 20: return x.runScript(i, b);
                case 21: return x.simulate(a, j);
                case 22: return x.save(i);
                case 23: return x.restore(i);
                default: return 0;
            }
        } catch (IndexOutOfBoundsException e) {
            return e.getClass() == IndexOutOfBoundsException.class ? INDEX : NOT_THROWN_BY_HAND;
        } catch (IllegalArgumentException e) {
            return e.getClass() == IllegalArgumentException.class ? ARGUMENT : NOT_THROWN_BY_HAND;
        } catch (IllegalStateException e) {
            return e.getClass() == IllegalStateException.class ? STATE : NOT_THROWN_BY_HAND;
        }
    }

    static long due(Model x, int kind, long a, long b) {
        int i = (int) a;
        int j = (int) b;
        switch (kind) {
            case 0: return x.append(i);
            case 1: return x.clearText();
            case 2: return x.errorPosition();
            case 3: return x.load();
            case 4: return x.about(i);
            case 5: return x.call(i, j);
            case 6: return x.link(b >= LAST_ROW / 2, i, (int) (b >= LAST_ROW / 2 ? b - LAST_ROW : b));
            case 7: return x.at(j == 1, i);
            case 8: return x.thanks(i, j == 1);
            case 9: return x.action(new int[] {1, i, j});
            case 10: return x.action(new int[] {2, i, j});
            case 11: return x.action(new int[] {3, i, 0});
            case 12: return x.action(new int[] {4, i, 0});
            case 13: return x.action(new int[] {5, i, j});
            case 14: return x.action(new int[] {6, i, 0});
            case 15: return x.undo();
            case 16: return x.moves(i, j);
            case 17: return x.open(i);
            case 18: return x.fewest();
            case 19: return x.weakest();
            case 20: return x.runScript(i, b);
            case 21: return x.simulate(a, j);
            case 22: return x.save(i);
            case 23: return x.restore(i);
            default: return 0;
        }
    }

    static final class OneCall {
        int input;
        List<Integer> outputs = new ArrayList<>();
        int board;
        int moved;

        OneCall copy() {
            OneCall other = new OneCall();
            other.input = input;
            other.outputs = new ArrayList<>(outputs);
            other.board = board;
            other.moved = moved;
            return other;
        }
    }

    static final class Rows {
        int first = 3;
        int width = 2;
        int middle = 3;
        int last = 3;
        int patience = 2;
        int movedInAll = 0;
        boolean[] broken = new boolean[4];
        int[] got = new int[16];
        int[] owed = new int[16];
        List<OneCall> calls = new ArrayList<>();

        Rows copy() {
            Rows other = new Rows();
            other.first = first;
            other.width = width;
            other.middle = middle;
            other.last = last;
            other.patience = patience;
            other.movedInAll = movedInAll;
            other.broken = broken.clone();
            other.got = got.clone();
            other.owed = owed.clone();
            for (OneCall c : calls) {
                other.calls.add(c.copy());
            }
            return other;
        }
    }

    /** Tries all boards for all calls, in the order of the lower boards first. */
    static final class Plans {
        final Rows rows;
        final List<OneCall> calls;
        final int boards;
        final boolean[] closed;
        final int known;
        final boolean[][] inTaken = new boolean[5][4];
        final boolean[][] outTaken = new boolean[5][4];
        final int[] trial;
        int bestMoves = Integer.MAX_VALUE;
        int[] best = null;

        Plans(Rows rows, List<OneCall> calls, int known, int boards, boolean[] closed) {
            this.rows = rows;
            this.calls = calls;
            this.known = known;
            this.boards = boards;
            this.closed = closed;
            trial = new int[calls.size()];
        }

        void tryFrom(int c, int moved) {
            if (moved >= bestMoves) {
                return;
            }
            if (c == calls.size()) {
                bestMoves = moved;
                best = trial.clone();
                return;
            }
            OneCall one = calls.get(c);
            boolean[] lasts = new boolean[4];
            for (int y : one.outputs) {
                lasts[y / rows.width] = true;
            }
            for (int m = 0; m < boards; m++) {
                boolean fits = !closed[m] && !inTaken[m][one.input / rows.width];
                for (int b = 0; b < 4; b++) {
                    fits = fits && !(lasts[b] && outTaken[m][b]);
                }
                if (fits) {
                    mark(m, one, lasts, true);
                    trial[c] = m;
                    tryFrom(c + 1, c < known && one.board != m ? moved + 1 : moved);
                    mark(m, one, lasts, false);
                }
            }
        }

        void mark(int m, OneCall one, boolean[] lasts, boolean is) {
            inTaken[m][one.input / rows.width] = is;
            for (int b = 0; b < 4; b++) {
                if (lasts[b]) {
                    outTaken[m][b] = is;
                }
            }
        }
    }

    static final class Model {
        Rows now = new Rows();
        List<Rows> past = new ArrayList<>();
        Rows[] slots = new Rows[2];
        String text = "";

        int inputs() {
            return now.first * now.width;
        }

        int outputs() {
            return now.last * now.width;
        }

        boolean noInput(Rows r, int x) {
            return x < 0 || x >= r.first * r.width;
        }

        boolean noOutput(Rows r, int y) {
            return y < 0 || y >= r.last * r.width;
        }

        int atInput(int x) {
            return atInput(now, x);
        }

        int atOutput(int y) {
            return atOutput(now, y);
        }

        int atInput(Rows r, int x) {
            for (int c = 0; c < r.calls.size(); c++) {
                if (r.calls.get(c).input == x) {
                    return c;
                }
            }
            return NONE;
        }

        int atOutput(Rows r, int y) {
            for (int c = 0; c < r.calls.size(); c++) {
                if (r.calls.get(c).outputs.contains(y)) {
                    return c;
                }
            }
            return NONE;
        }

        int linksOf(Rows r, OneCall one) {
            List<Integer> boards = new ArrayList<>();
            for (int y : one.outputs) {
                if (!boards.contains(y / r.width)) {
                    boards.add(y / r.width);
                }
            }
            return 1 + boards.size();
        }

        int linksTaken(Rows r) {
            int links = 0;
            for (OneCall one : r.calls) {
                links += linksOf(r, one);
            }
            return links;
        }

        int linksTaken() {
            return linksTaken(now);
        }

        long append(int c) {
            if (c < 0 || c > 255) {
                return ARGUMENT;
            }
            if (text.length() >= 120) {
                return STATE;
            }
            text += (char) c;
            return text.length();
        }

        long clearText() {
            int before = text.length();
            text = "";
            return before;
        }

        /** Compares each command with all that are allowed there, character by character. */
        long errorPosition() {
            int at;
            if (text.isEmpty() || text.charAt(0) != 'C') {
                return 0;
            }
            for (at = 1; at < 5; at++) {
                if (at >= text.length() || text.charAt(at) < '1' || text.charAt(at) > '4') {
                    return at;
                }
            }
            int first = text.charAt(1) - '0';
            int width = text.charAt(2) - '0';
            int middle = text.charAt(3) - '0';
            int last = text.charAt(4) - '0';
            while (at < text.length()) {
                List<String> arguments = new ArrayList<>();
                switch (text.charAt(at)) {
                    case 'c':
                        pairs(arguments, first * width, last * width);
                        break;
                    case 'j':
                        pairs(arguments, 16, last * width);
                        break;
                    case 'h':
                        for (int c = 0; c < 16; c++) {
                            arguments.add(two(c));
                        }
                        break;
                    case 'b':
                        for (int m = 0; m < middle; m++) {
                            arguments.add("" + m);
                        }
                        break;
                    case 'p':
                        for (int p = 0; p < 4; p++) {
                            arguments.add("" + p);
                        }
                        break;
                    default:
                        return at;
                }
                at++;
                int size = arguments.get(0).length();
                for (int i = 1; i <= size; i++) {
                    boolean possible = false;
                    for (String argument : arguments) {
                        possible = possible || text.startsWith(argument.substring(0, i), at);
                    }
                    if (!possible) {
                        return at + i - 1;
                    }
                }
                at += size;
            }
            return NONE;
        }

        void pairs(List<String> into, int a, int b) {
            for (int i = 0; i < a; i++) {
                for (int j = 0; j < b; j++) {
                    into.add(two(i) + two(j));
                }
            }
        }

        long load() {
            if (errorPosition() != NONE) {
                return STATE;
            }
            now = new Rows();
            now.first = text.charAt(1) - '0';
            now.width = text.charAt(2) - '0';
            now.middle = text.charAt(3) - '0';
            now.last = text.charAt(4) - '0';
            past.clear();
            slots = new Rows[2];
            int leftOut = 0;
            int at = 5;
            while (at < text.length()) {
                char letter = text.charAt(at);
                int size = letter == 'c' || letter == 'j' ? 4 : letter == 'h' ? 2 : 1;
                String rest = text.substring(at + 1, at + 1 + size);
                int a = Integer.parseInt(rest.substring(0, Math.min(2, size)));
                int b = size == 4 ? Integer.parseInt(rest.substring(2)) : 0;
                int[] command = {"?cjh?bp".indexOf(letter), a, b};
                if (letter == 'b') {
                    command[2] = now.broken[a] ? 0 : 1;
                }
                if (perform(now, command) < NONE) {
                    leftOut++;
                }
                at += 1 + size;
            }
            return leftOut;
        }

        long about(int what) {
            int broken = 0;
            int taken = 0;
            for (int m = 0; m < 4; m++) {
                broken += now.broken[m] ? 1 << m : 0;
            }
            for (OneCall one : now.calls) {
                taken += one.outputs.size();
            }
            long[] numbers = {now.first, now.width, now.middle, now.last, now.calls.size(), now.patience,
                now.movedInAll, linksTaken(), broken, taken};
            return what < 0 || what > 9 ? ARGUMENT : numbers[what];
        }

        long call(int c, int what) {
            if (c < 0 || c >= now.calls.size()) {
                return INDEX;
            }
            OneCall one = now.calls.get(c);
            int mask = 0;
            for (int y : one.outputs) {
                mask += 1 << y;
            }
            long[] numbers = {one.input, mask, one.board, one.moved, linksOf(now, one)};
            return what < 0 || what > 4 ? ARGUMENT : numbers[what];
        }

        long link(boolean last, int m, int board) {
            if (m < 0 || m >= now.middle || board < 0 || board >= (last ? now.last : now.first)) {
                return INDEX;
            }
            for (int c = 0; c < now.calls.size(); c++) {
                OneCall one = now.calls.get(c);
                if (one.board != m) {
                    continue;
                }
                if (!last && one.input / now.width == board) {
                    return c;
                }
                for (int y : one.outputs) {
                    if (last && y / now.width == board) {
                        return c;
                    }
                }
            }
            return NONE;
        }

        long at(boolean output, int x) {
            if (output ? noOutput(now, x) : noInput(now, x)) {
                return INDEX;
            }
            return output ? atOutput(x) : atInput(x);
        }

        long thanks(int x, boolean owes) {
            return noInput(now, x) ? INDEX : owes ? now.owed[x] : now.got[x];
        }

        long action(int[] command) {
            Rows before = now.copy();
            long answer = perform(now, command);
            if (answer < NONE) {
                return answer;
            }
            past.add(before);
            if (past.size() > 14) {
                past.remove(0);
            }
            return answer;
        }

        /** Kinds as in scripts: 1 connect, 2 join, 3 hang, 4 drop, 5 setBroken, 6 setPatience. */
        long perform(Rows r, int[] command) {
            int a = command[1];
            int b = command[2];
            switch (command[0]) {
                case 1:
                    return connect(r, a, b);
                case 2:
                    return join(r, a, b);
                case 3:
                    if (a < 0 || a >= r.calls.size()) {
                        return INDEX;
                    }
                    r.calls.remove(a);
                    return r.calls.size();
                case 4:
                    if (noOutput(r, a)) {
                        return INDEX;
                    }
                    int c = atOutput(r, a);
                    if (c == NONE || r.calls.get(c).outputs.size() == 1) {
                        return STATE;
                    }
                    r.calls.get(c).outputs.remove(Integer.valueOf(a));
                    return r.calls.get(c).outputs.size();
                case 5:
                    return setBroken(r, a, b == 1);
                case 6:
                    if (a < 0 || a > 3) {
                        return ARGUMENT;
                    }
                    int before = r.patience;
                    r.patience = a;
                    return before;
                default:
                    throw new RuntimeException("no such command");
            }
        }

        long setBroken(Rows r, int m, boolean is) {
            if (m < 0 || m >= r.middle) {
                return INDEX;
            }
            for (OneCall one : r.calls) {
                if (is && one.board == m) {
                    return STATE;
                }
            }
            r.broken[m] = is;
            int whole = 0;
            for (int i = 0; i < r.middle; i++) {
                whole += r.broken[i] ? 0 : 1;
            }
            return whole;
        }

        long connect(Rows r, int x, int y) {
            if (noInput(r, x) || noOutput(r, y)) {
                return INDEX;
            }
            if (atInput(r, x) != NONE || atOutput(r, y) != NONE) {
                return STATE;
            }
            OneCall one = new OneCall();
            one.input = x;
            one.outputs.add(y);
            List<OneCall> then = new ArrayList<>(r.calls);
            then.add(one);
            return follow(r, then, one);
        }

        long join(Rows r, int c, int y) {
            if (c < 0 || c >= r.calls.size() || noOutput(r, y)) {
                return INDEX;
            }
            OneCall one = r.calls.get(c);
            if (atOutput(r, y) != NONE || one.outputs.size() == 4) {
                return STATE;
            }
            one.outputs.add(y);
            long answer = follow(r, new ArrayList<>(r.calls), one);
            if (answer == STATE) {
                one.outputs.remove(Integer.valueOf(y));
            }
            return answer;
        }

        long follow(Rows r, List<OneCall> then, OneCall asking) {
            Plans plans = new Plans(r, then, r.calls.size(), r.middle, r.broken);
            plans.bestMoves = r.patience + 1;
            plans.tryFrom(0, 0);
            if (plans.best == null) {
                return STATE;
            }
            for (int c = 0; c < then.size(); c++) {
                OneCall one = then.get(c);
                if (c < r.calls.size() && one.board != plans.best[c]) {
                    one.moved++;
                    r.movedInAll++;
                    if (one != asking) {
                        r.got[one.input]++;
                        r.owed[asking.input]++;
                    }
                }
                one.board = plans.best[c];
            }
            r.calls = then;
            return plans.bestMoves;
        }

        long undo() {
            if (past.isEmpty()) {
                return STATE;
            }
            now = past.remove(past.size() - 1);
            return past.size();
        }

        long moves(int x, int y) {
            if (noInput(now, x) || noOutput(now, y)) {
                return INDEX;
            }
            long answer = connect(now.copy(), x, y);
            return answer < NONE ? NONE : answer;
        }

        long open(int most) {
            if (most < 0 || most > 3) {
                return ARGUMENT;
            }
            int pairs = 0;
            for (int x = 0; x < inputs(); x++) {
                for (int y = 0; y < outputs(); y++) {
                    long answer = moves(x, y);
                    pairs += answer >= 0 && answer <= most ? 1 : 0;
                }
            }
            return pairs;
        }

        long fewest() {
            for (int boards = 0; boards <= 4; boards++) {
                Plans plans = new Plans(now, now.calls, 0, boards, new boolean[5]);
                plans.bestMoves = 1;
                plans.tryFrom(0, 0);
                if (plans.best != null) {
                    return boards;
                }
            }
            throw new RuntimeException("the calls have no plan at all");
        }

        long weakest() {
            long best = NONE;
            for (int m = 0; m < now.middle; m++) {
                if (now.broken[m]) {
                    continue;
                }
                boolean[] closed = now.broken.clone();
                closed[m] = true;
                Plans plans = new Plans(now, now.calls, now.calls.size(), now.middle, closed);
                plans.tryFrom(0, 0);
                if (plans.best != null && (best == NONE || 10L * plans.bestMoves + m < best)) {
                    best = 10L * plans.bestMoves + m;
                }
            }
            return best;
        }

        long runScript(int n, long script) {
            if (n < 1 || n > 3 || script < 0 || ("" + script).length() > 5 * n) {
                return ARGUMENT;
            }
            String digits = "" + script;
            while (digits.length() < 5 * n) {
                digits = "0" + digits;
            }
            Rows r = now.copy();
            for (int i = 0; i < n; i++) {
                if (!does(r, digits.substring(5 * i, 5 * i + 5))) {
                    return i;
                }
            }
            return NONE;
        }

        boolean does(Rows r, String group) {
            String[] shapes = {"", "1....", "2....", "3..00", "400..", "5.[01]00", "6000.", "7..0.", "800..", "900.."};
            int kind = group.charAt(0) - '0';
            if (!group.matches(shapes[kind])) {
                return false;
            }
            int high = Integer.parseInt(group.substring(1, 3));
            int low = Integer.parseInt(group.substring(3));
            switch (kind) {
                case 1:
                case 2:
                    return perform(r, new int[] {kind, high, low}) >= 0;
                case 3:
                    return perform(r, new int[] {kind, high, 0}) >= 0;
                case 4:
                case 6:
                    return perform(r, new int[] {kind, low, 0}) >= 0;
                case 5:
                    return perform(r, new int[] {kind, high / 10, high % 10}) >= 0;
                case 7:
                    return high < r.calls.size() && r.calls.get(high).board == low;
                case 8:
                    return linksTaken(r) <= low;
                default:
                    return r.calls.size() >= low;
            }
        }

        long simulate(long seed, int m) {
            if (m < 1 || m > 60) {
                return ARGUMENT;
            }
            Rows copy = now.copy();
            long x = seed;
            long moving = 0;
            for (int turn = 0; turn < m; turn++) {
                x = x * 6364136223846793005L + 1442695040888963407L;
                int r = (int) (x >>> 33);
                int i = r / 8 % (copy.first * copy.width);
                int o = r / 128 % (copy.last * copy.width);
                int c = r / 8 % (copy.calls.isEmpty() ? 1 : copy.calls.size());
                int what = r % 8;
                int before = copy.movedInAll;
                if (what <= 3) {
                    perform(copy, new int[] {1, i, o});
                } else if (what == 4) {
                    perform(copy, new int[] {2, c, o});
                } else if (what <= 6) {
                    perform(copy, new int[] {3, c, 0});
                } else {
                    perform(copy, new int[] {4, o, 0});
                }
                moving += copy.movedInAll - before;
            }
            return 1000 * moving + copy.calls.size();
        }

        long save(int slot) {
            if (slot < 0 || slot > 1) {
                return INDEX;
            }
            slots[slot] = now.copy();
            return now.calls.size();
        }

        long restore(int slot) {
            if (slot < 0 || slot > 1) {
                return INDEX;
            }
            if (slots[slot] == null) {
                return STATE;
            }
            now = slots[slot].copy();
            past.clear();
            return now.calls.size();
        }
    }
}
