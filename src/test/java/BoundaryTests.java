/** A test for each sentence of the promises 1 to 25 that names a boundary. */
public final class BoundaryTests extends Checks {
    /** open(0) to open(3) all differ here: 69, 73, 77, 81. */
    static final String LONG_WAYS = "C4434b0b1c0308c1512j0100b1c1011c1415b0c1304c1101p3";

    public static void main(String[] args) {
        newObject();
        appendRange();
        appendToFullText();
        clearText();
        errorPosition();
        loadOfNoExchange();
        loadReplacesEverything();
        loadForgetsThanks();
        about();
        callNumbers();
        link();
        at();
        thanks();
        connect();
        join();
        hang();
        drop();
        setBroken();
        setPatience();
        undo();
        questionsChangeNothing();
        moves();
        open();
        fewest();
        weakest();
        weakestAmongSeveral();
        scriptLength();
        scriptPlaces();
        scriptsThatAnswerZero();
        scriptZeros();
        scriptComparisons();
        scriptOnACopy();
        simulateTurns();
        simulateWrapsAround();
        save();
        restore();
        afterManyCalls();
        end();
    }

    // ---- a new object, text

    static void newObject() {
        sentence("Creates 3 boards in each row, with the width 2, without calls.");
        SwitchRows x = new SwitchRows();
        dueView("a new object", "3 2 3 3 0 2 0 0 0 0 ; 0 0; 0 0; 0 0; 0 0; 0 0; 0 0", x);
        due("no call 0", INDEX, () -> x.call(0, 0));
        due("no call to end", INDEX, () -> x.hang(0));
        due("no call to join", INDEX, () -> x.join(0, 0));
        for (int i = 0; i < 6; i++) {
            int place = i;
            due("input " + i + " is free", NONE, () -> x.at(false, place));
            due("output " + i + " is free", NONE, () -> x.at(true, place));
            due("nothing to drop at " + i, STATE, () -> x.drop(place));
        }
        for (int m = 0; m < 3; m++) {
            for (int board = 0; board < 3; board++) {
                int middle = m;
                int b = board;
                due("link from " + b + " to " + m, NONE, () -> x.link(false, middle, b));
                due("link from " + m + " to " + b, NONE, () -> x.link(true, middle, b));
            }
        }
        due("the text is empty", 0, () -> x.clearText());
        due("it is no exchange", 0, () -> x.errorPosition());
        due("it can't be loaded", STATE, () -> x.load());
        due("nothing is remembered", STATE, () -> x.undo());
        due("nothing is in slot 0", STATE, () -> x.restore(0));
        due("nothing is in slot 1", STATE, () -> x.restore(1));
    }

    static void appendRange() {
        sentence("character code, 0 to 255");
        int[] wrongCodes = {-1, 256, Integer.MIN_VALUE, Integer.MAX_VALUE, 1 << 16, 'C' + 256, 'C' + (1 << 16), 'C' - 256};
        for (int code : wrongCodes) {
            dueAndNothingElse("code " + code, ARGUMENT, Checks::busy, x -> x.append(code));
        }
        for (int code = 0; code <= 255; code++) {
            int c = code;
            SwitchRows x = new SwitchRows();
            due("code " + code, 1, () -> x.append(c));
        }
        SwitchRows x = written("C1111");
        due("the new length", 6, () -> x.append(0));
        due("the sign 0 is kept", 5, () -> x.errorPosition());
    }

    static void appendToFullText() {
        sentence("Throws IllegalStateException if the text already has 120 characters");
        StringBuilder text = new StringBuilder("C4444");
        while (text.length() < 120) {
            text.append("c0101");
        }
        String most = text.toString();
        due("the last character", 120, () -> written(most.substring(0, 119)).append('1'));
        dueAndNothingElse("one more", STATE, () -> written(most), x -> x.append('p'));
        dueAndNothingElse("one more, code 0", STATE, () -> written(most), x -> x.append(0));
        dueAndNothingElse("a wrong one", ARGUMENT, () -> written(most), x -> x.append(-1));
        SwitchRows x = written(most);
        x.load();
        due("the full text stays full behind a load", STATE, () -> x.append('p'));
        due("the full text", 120, () -> x.clearText());
        due("there is room again", 1, () -> x.append('p'));
    }

    static void clearText() {
        sentence("Empties the text buffer. Returns the previous length of the text.");
        due("the empty text", 0, () -> new SwitchRows().clearText());
        SwitchRows x = written("C");
        due("one character", 1, () -> x.clearText());
        due("none is left", 0, () -> x.clearText());
        due("none is read", 0, () -> x.errorPosition());
        SwitchRows y = busy();
        String before = view(y);
        due("a text that was loaded", 19, () -> y.clearText());
        dueView("the state behind it", before, y);
        due("states are still remembered", 13, () -> y.undo());
        due("the slots are still there", 2, () -> y.restore(0));
        SwitchRows z = written("C4444c0000");
        z.clearText();
        z.append('C');
        due("what was behind is gone", 1, () -> z.errorPosition());
    }

    static void errorPosition() {
        sentence("Returns the error position of the text; NONE if it is an exchange.");
        due("the shortest exchange", NONE, () -> written("C1111").errorPosition());
        due("the empty text", 0, () -> written("").errorPosition());
        due("one character too few", 4, () -> written("C111").errorPosition());
        due("one character too many", 5, () -> written("C11111").errorPosition());
        SwitchRows x = new SwitchRows();
        write(x, "C1111h15");
        due("the boards of the text count, not those that are there", NONE, () -> x.errorPosition());
        write(x, "C1111c0005");
        due("the output of the text's boards", 9, () -> x.errorPosition());
    }

    static void loadOfNoExchange() {
        sentence("Throws IllegalStateException if the text is not an exchange");
        String[] texts = {"", "C", "C111", "c1111", "C11111", "C1111c", "C1111c000", "C1111c0001", "C5111", "C1111 ", "C1111p4",
            "C1111h16"};
        for (String text : texts) {
            Maker maker = () -> {
                SwitchRows x = busy();
                write(x, text);
                return x;
            };
            dueAndNothingElse("\"" + text + "\"", STATE, maker, x -> x.load());
        }
    }

    static void loadReplacesEverything() {
        sentence("Replaces everything by the boards of the text (patience 2, none broken), and does its commands. Behind it no"
            + " state is remembered, and both save slots are empty. Keeps the text.");
        SwitchRows x = busy();
        write(x, "C1234");
        due("no command is left out", 0, () -> x.load());
        dueView("the boards alone", "1 2 3 4 0 2 0 0 0 0 ; 0 0; 0 0", x);
        due("no state is remembered", STATE, () -> x.undo());
        due("slot 0 is empty", STATE, () -> x.restore(0));
        due("slot 1 is empty", STATE, () -> x.restore(1));
        due("the text is kept", NONE, () -> x.errorPosition());
        due("loaded again", 0, () -> x.load());
        due("its length", 5, () -> x.clearText());
        SwitchRows y = busy();
        y.load();
        dueView("its own text again", "2 3 3 2 2 2 0 4 0 2 | 3 8 1 0 2 | 0 1 0 0 2 ; 0 0; 0 0; 0 0; 0 0; 0 0; 0 0", y);
        SwitchRows z = full();
        write(z, "C1111");
        z.load();
        write(z, "C4444");
        z.load();
        dueText("nothing is left of what was there before the smaller boards", view(loaded("C4444")), view(z));
        sentence("Returns the number of commands that are left out.");
        due("none of none", 0, () -> written("C1111").load());
        due("none of one", 0, () -> written("C1111c0000").load());
        due("one of two", 1, () -> written("C1111c0000c0000").load());
        StringBuilder most = new StringBuilder("C1111");
        while (most.length() < 119) {
            most.append("h00");
        }
        due("all of 38", 38, () -> written(most.toString()).load());
    }

    static void loadForgetsThanks() {
        sentence("Replaces everything by the boards of the text");
        // In the first of them input 0 owes a thank, in the others it gets one.
        String[] texts = {"C2322b0c0303b0c0101c0004", "C2322b0c0000b0c0303c0401", "C2322b0c0003b0c0301c0404"};
        int[] owing = {0, 4, 4};
        int[] getting = {3, 0, 0};
        for (int i = 0; i < texts.length; i++) {
            int owes = owing[i];
            int gets = getting[i];
            SwitchRows x = loaded(texts[i]);
            due(texts[i] + ", owed", 1, () -> x.thanks(owes, true));
            due(texts[i] + ", got", 1, () -> x.thanks(gets, false));
            write(x, "C2322");
            x.load();
            dueText("behind another load", view(loaded("C2322")), view(x));
        }
    }

    // ---- what there is

    static void about() {
        sentence("what: 0 ... 9");
        for (int n : new int[] {-1, 10, Integer.MIN_VALUE, Integer.MAX_VALUE}) {
            dueAndNothingElse("about(" + n + ")", ARGUMENT, Checks::busy, x -> x.about(n));
        }
        long[] ofFull = {4, 4, 4, 4, 16, 2, 0, 32, 0, 16};
        long[] ofSmall = {1, 1, 1, 1, 0, 2, 0, 0, 0, 0};
        SwitchRows small = loaded("C1111");
        SwitchRows full = full();
        for (int what = 0; what <= 9; what++) {
            int w = what;
            due("about(" + what + ") of the empty network", ofSmall[what], () -> small.about(w));
            due("about(" + what + ") of the full network", ofFull[what], () -> full.about(w));
            dueAndNothingElse("about(" + what + ")", new long[] {2, 3, 3, 2, 4, 1, 1, 8, 4, 5}[what], Checks::busy,
                x -> x.about(w));
        }
        SwitchRows broken = loaded("C1141b0b1b2b3");
        due("all bits", 15, () -> broken.about(8));
    }

    static void callNumbers() {
        sentence("Throws IndexOutOfBoundsException if there is no such call; Throws IllegalArgumentException if what is not 0"
            + " to 4");
        SwitchRows full = full();
        long[] last = {15, 1 << 15, 3, 0, 2};
        for (int what = 0; what <= 4; what++) {
            int w = what;
            due("call(15, " + what + ") of 16", last[what], () -> full.call(15, w));
            due("call(16, " + what + ") of 16", INDEX, () -> full.call(16, w));
            due("call(-1, " + what + ") of 16", INDEX, () -> full.call(-1, w));
            due("call(0, " + what + ") without calls", INDEX, () -> new SwitchRows().call(0, w));
        }
        due("call(15, 5)", ARGUMENT, () -> full.call(15, 5));
        due("call(15, -1)", ARGUMENT, () -> full.call(15, -1));
        due("call(16, 5)", INDEX, () -> full.call(16, 5));
        due("call(-1, -1)", INDEX, () -> full.call(-1, -1));
        dueAndNothingElse("no such call", INDEX, Checks::busy, x -> x.call(4, 0));
        dueAndNothingElse("no such number", ARGUMENT, Checks::busy, x -> x.call(3, 5));
        dueAndNothingElse("a number", 3, Checks::busy, x -> x.call(1, 1));
    }

    static void link() {
        sentence("Returns the call that has the link between them, NONE if none has.");
        SwitchRows full = full();
        SwitchRows empty = loaded("C4444");
        for (int m = 0; m < 4; m++) {
            for (int board = 0; board < 4; board++) {
                int middle = m;
                int b = board;
                due("from " + b + " to " + m + ", full", 4 * b + m, () -> full.link(false, middle, b));
                due("from " + m + " to " + b + ", full", 4 * b + m, () -> full.link(true, middle, b));
                due("from " + b + " to " + m + ", empty", NONE, () -> empty.link(false, middle, b));
                due("from " + m + " to " + b + ", empty", NONE, () -> empty.link(true, middle, b));
            }
        }
        SwitchRows x = loaded("C2143");
        int[][] outside = {{4, 0}, {-1, 0}, {0, -1}, {4, 2}, {-1, -1}, {3, 4}};
        for (int[] o : outside) {
            due("from " + o[1] + " to " + o[0], INDEX, () -> x.link(false, o[0], o[1]));
            due("from " + o[0] + " to " + o[1] + " of the last row", INDEX, () -> x.link(true, o[0], o[1]));
        }
        due("first board 1 of 2", NONE, () -> x.link(false, 3, 1));
        due("first board 2 of 2", INDEX, () -> x.link(false, 3, 2));
        due("last board 2 of 3", NONE, () -> x.link(true, 3, 2));
        due("last board 3 of 3", INDEX, () -> x.link(true, 3, 3));
        dueAndNothingElse("no such board", INDEX, Checks::busy, y -> y.link(true, 0, 2));
        dueAndNothingElse("a link", 1, Checks::busy, y -> y.link(true, 0, 0));
    }

    static void at() {
        sentence("Returns the call that has it, NONE if none has.");
        SwitchRows full = full();
        SwitchRows empty = loaded("C4444");
        for (int i = 0; i < 16; i++) {
            int place = i;
            due("input " + i + ", full", i, () -> full.at(false, place));
            due("output " + i + ", full", i, () -> full.at(true, place));
            due("input " + i + ", empty", NONE, () -> empty.at(false, place));
            due("output " + i + ", empty", NONE, () -> empty.at(true, place));
        }
        due("input 16", INDEX, () -> full.at(false, 16));
        due("output 16", INDEX, () -> full.at(true, 16));
        SwitchRows x = loaded("C4312");
        due("input 11 of 12", NONE, () -> x.at(false, 11));
        due("input 12 of 12", INDEX, () -> x.at(false, 12));
        due("output 5 of 6", NONE, () -> x.at(true, 5));
        due("output 6 of 6", INDEX, () -> x.at(true, 6));
        due("input -1", INDEX, () -> x.at(false, -1));
        due("output -1", INDEX, () -> x.at(true, -1));
        dueAndNothingElse("no such output", INDEX, Checks::busy, y -> y.at(true, 6));
        dueAndNothingElse("an output", 3, Checks::busy, y -> y.at(true, 2));
    }

    static void thanks() {
        sentence("Returns how many thanks this input owes, or got, so far.");
        SwitchRows x = loaded("C4212");
        for (boolean owes : new boolean[] {false, true}) {
            due("input 7 of 8", 0, () -> x.thanks(7, owes));
            due("input 8 of 8", INDEX, () -> x.thanks(8, owes));
            due("input -1", INDEX, () -> x.thanks(-1, owes));
            dueAndNothingElse("no such input", INDEX, Checks::busy, y -> y.thanks(6, owes));
        }
        dueAndNothingElse("owed", 1, Checks::busy, y -> y.thanks(1, true));
        dueAndNothingElse("got", 1, Checks::busy, y -> y.thanks(3, false));
        SwitchRows y = busy();
        while (y.about(4) > 0) {
            y.hang(0);
        }
        due("owed, though its call ended", 1, () -> y.thanks(1, true));
        due("got, though its call ended", 1, () -> y.thanks(3, false));
    }

    // ---- actions

    static void connect() {
        sentence("Throws IndexOutOfBoundsException if there is no such input or output; Throws IllegalStateException if the"
            + " input or the output has a call, or if it is blocked");
        int[][] absent = {{6, 5}, {2, 6}, {-1, 5}, {2, -1}, {6, 6}, {0, 6}, {6, 0}, {99, 99}};
        for (int[] a : absent) {
            dueAndNothingElse("no such place, " + a[0] + " to " + a[1], INDEX, Checks::busy, x -> x.connect(a[0], a[1]));
        }
        dueAndNothingElse("the input has a call", STATE, Checks::busy, x -> x.connect(0, 5));
        dueAndNothingElse("the output has a call", STATE, Checks::busy, x -> x.connect(2, 3));
        dueAndNothingElse("the output is a second one", STATE, Checks::busy, x -> x.connect(2, 1));
        dueAndNothingElse("both have", STATE, Checks::busy, x -> x.connect(0, 0));
        dueAndNothingElse("it is blocked", STATE, Checks::busy, x -> x.connect(2, 5));
        dueAndNothingElse("it is blocked by the patience", STATE, () -> loaded(TWO_APART + "p0"), x -> x.connect(1, 3));
        SwitchRows corner = loaded("C4444");
        due("the last input and the last output", 0, () -> corner.connect(15, 15));
        due("the first ones", 0, () -> corner.connect(0, 0));
        SwitchRows full = full();
        for (int i = 0; i < 16; i++) {
            int place = i;
            due("input " + i + " of the full network", STATE, () -> full.connect(place, 15 - place));
        }
        due("sixteen calls", 16, () -> full.about(4));
    }

    static void join() {
        sentence("Throws IndexOutOfBoundsException if there is no such call or output; Throws IllegalStateException if the"
            + " output has a call, this call has 4 outputs, or if it is blocked");
        int[][] absent = {{4, 5}, {-1, 5}, {0, 6}, {0, -1}, {4, 0}, {4, 6}, {15, 5}};
        for (int[] a : absent) {
            dueAndNothingElse("join(" + a[0] + ", " + a[1] + ")", INDEX, Checks::busy, x -> x.join(a[0], a[1]));
        }
        dueAndNothingElse("the output has another call", STATE, Checks::busy, x -> x.join(0, 2));
        dueAndNothingElse("the output has this call", STATE, Checks::busy, x -> x.join(1, 1));
        dueAndNothingElse("it is blocked", STATE, Checks::busy, x -> x.join(1, 5));
        dueAndNothingElse("it is blocked by the patience", STATE, () -> loaded("C2222c0202c0000p0"), x -> x.join(1, 3));
        Maker three = () -> loaded("C1424c0000j0001j0002");
        Maker four = () -> loaded("C1424c0000j0001j0002j0003");
        due("a fourth output", 0, () -> three.make().join(0, 15));
        dueAndNothingElse("a fifth output", STATE, four, x -> x.join(0, 15));
        dueAndNothingElse("a fifth output that it has", STATE, four, x -> x.join(0, 3));
        SwitchRows last = loaded("C4444");
        for (int i = 0; i < 16; i++) {
            int place = i;
            due("sixteen calls", 0, () -> last.connect(place, place));
        }
        last.hang(0);
        due("there is no call behind the last one", INDEX, () -> last.join(15, 0));
        // The call from input 3 makes room: it goes by the links of the call that ended.
        due("the last call and the only free output", 1, () -> last.join(14, 0));
    }

    static void hang() {
        sentence("Ends a call. Returns the number of calls then. Throws IndexOutOfBoundsException if there is no such call");
        for (int n : new int[] {4, -1, 15, 16, Integer.MAX_VALUE}) {
            dueAndNothingElse("hang(" + n + ") of 4", INDEX, Checks::busy, x -> x.hang(n));
        }
        due("without calls", INDEX, () -> new SwitchRows().hang(0));
        SwitchRows full = full();
        for (int n = 15; n >= 0; n--) {
            int left = n;
            due("one above the last", INDEX, () -> full.hang(left + 1));
            due("the last one", left, () -> full.hang(left));
        }
        due("none is left", INDEX, () -> full.hang(0));
        due("no link is taken", 0, () -> full.about(7));
        due("no output is taken", 0, () -> full.about(9));
        dueText("nothing is left of the calls", taken(loaded("C4444")), taken(full));
        SwitchRows x = full();
        x.hang(15);
        due("the last call's link from the first row is free", NONE, () -> x.link(false, 3, 3));
        due("the last call's link to the last row is free", NONE, () -> x.link(true, 3, 3));
        due("its input is free", NONE, () -> x.at(false, 15));
        due("its output is free", NONE, () -> x.at(true, 15));
    }

    static void drop() {
        sentence("Throws IndexOutOfBoundsException if there is no such output; Throws IllegalStateException if it has no call,"
            + " or that has no other output");
        for (int n : new int[] {6, -1, 16, Integer.MIN_VALUE}) {
            dueAndNothingElse("drop(" + n + ") of 6", INDEX, Checks::busy, x -> x.drop(n));
        }
        dueAndNothingElse("it has no call", STATE, Checks::busy, x -> x.drop(5));
        dueAndNothingElse("its call has no other output", STATE, Checks::busy, x -> x.drop(3));
        SwitchRows x = busy();
        due("its call has another one", 1, () -> x.drop(0));
        due("the other one is the only one then", STATE, () -> x.drop(1));
        due("it has no call then", STATE, () -> x.drop(0));
        SwitchRows y = loaded("C1414c0015j0000j0007j0008");
        due("the first of four", 3, () -> y.drop(15));
        due("then three links are left to the last row", 4, () -> y.call(0, 4));
        due("the lowest", 2, () -> y.drop(0));
        due("down to one", 1, () -> y.drop(8));
        due("but not to none", STATE, () -> y.drop(7));
    }

    static void setBroken() {
        sentence("Returns the number of middle boards that are not broken. Throws IllegalStateException if it would be broken,"
            + " and a call goes by it");
        for (int n : new int[] {3, -1, 4, Integer.MAX_VALUE}) {
            dueAndNothingElse("break " + n + " of 3", INDEX, Checks::busy, x -> x.setBroken(n, true));
            dueAndNothingElse("mend " + n + " of 3", INDEX, Checks::busy, x -> x.setBroken(n, false));
        }
        dueAndNothingElse("a call goes by 0", STATE, Checks::busy, x -> x.setBroken(0, true));
        dueAndNothingElse("a call goes by 1", STATE, Checks::busy, x -> x.setBroken(1, true));
        due("mended though a call goes by it", 2, () -> busy().setBroken(0, false));
        due("broken again", 2, () -> busy().setBroken(2, true));
        due("mended", 3, () -> busy().setBroken(2, false));
        SwitchRows x = loaded("C1141");
        for (int m = 0; m < 4; m++) {
            int board = m;
            due("one after another is broken", 3 - m, () -> x.setBroken(board, true));
        }
        due("all are", 15, () -> x.about(8));
        for (int m = 0; m < 4; m++) {
            int board = m;
            due("one after another is mended", m + 1, () -> x.setBroken(board, false));
        }
        SwitchRows full = full();
        for (int m = 0; m < 4; m++) {
            int board = m;
            due("a call goes by each", STATE, () -> full.setBroken(board, true));
        }
        SwitchRows y = loaded("C1141c0000");
        y.hang(0);
        due("the call that went by it ended", 3, () -> y.setBroken(0, true));
    }

    static void setPatience() {
        sentence("patience: 0 to 3; Returns the previous one.");
        for (int n : new int[] {-1, 4, Integer.MIN_VALUE, Integer.MAX_VALUE}) {
            dueAndNothingElse("patience " + n, ARGUMENT, Checks::busy, x -> x.setPatience(n));
        }
        SwitchRows x = new SwitchRows();
        int before = 2;
        for (int n : new int[] {0, 3, 1, 1, 2, 0}) {
            int previous = before;
            due("patience " + n, previous, () -> x.setPatience(n));
            due("it is " + n, n, () -> x.about(5));
            before = n;
        }
    }

    static void undo() {
        sentence("Returns how many states are still remembered. Throws IllegalStateException if none is remembered");
        dueAndNothingElse("a new object", STATE, SwitchRows::new, x -> x.undo());
        dueAndNothingElse("a loaded object", STATE, () -> loaded(TWO_APART), x -> x.undo());
        Maker emptied = () -> {
            SwitchRows x = busy();
            for (int i = 0; i < REMEMBERED; i++) {
                x.undo();
            }
            return x;
        };
        dueAndNothingElse("all are taken back", STATE, emptied, x -> x.undo());
        SwitchRows x = new SwitchRows();
        for (int n = 1; n <= 16; n++) {
            int left = Math.min(n, REMEMBERED) - 1;
            SwitchRows y = new SwitchRows();
            for (int i = 0; i < n; i++) {
                y.setBroken(i % 3, i % 2 == 0);
            }
            due(n + " actions", left, () -> y.undo());
        }
        x.connect(0, 0);
        due("one action", 0, () -> x.undo());
        due("none is left", STATE, () -> x.undo());
    }

    // ---- what would be

    static void questionsChangeNothing() {
        sentence("these and all following methods up to the save slots change nothing");
        String[] texts = {TWO_APART, LONG_WAYS};
        for (String text : texts) {
            Maker maker = () -> {
                SwitchRows x = loaded(text);
                x.setPatience(3);
                x.save(1);
                return x;
            };
            SwitchRows x = maker.make();
            Call[] questions = {y -> y.moves(1, 3), y -> y.moves(0, 0), y -> y.open(0), y -> y.open(3), y -> y.fewest(),
                y -> y.weakest(), y -> y.runScript(3, 101033000050110L), y -> y.runScript(2, 6000050110L),
                y -> y.simulate(7L, 60), y -> y.simulate(-7L, 1), y -> y.errorPosition()};
            for (int i = 0; i < questions.length; i++) {
                Call question = questions[i];
                long answer = answer(() -> question.on(x));
                dueAndNothingElse("question " + i, answer, maker, question);
            }
        }
    }

    static void moves() {
        sentence("Returns how many calls connect(x, y) would move; NONE if it is not possible.");
        int[][] absent = {{6, 5}, {2, 6}, {-1, 5}, {2, -1}, {0, 6}, {6, 0}};
        for (int[] a : absent) {
            dueAndNothingElse("moves(" + a[0] + ", " + a[1] + ")", INDEX, Checks::busy, x -> x.moves(a[0], a[1]));
        }
        dueAndNothingElse("the input has a call", NONE, Checks::busy, x -> x.moves(0, 5));
        dueAndNothingElse("the output has a call", NONE, Checks::busy, x -> x.moves(2, 3));
        dueAndNothingElse("it is blocked", NONE, Checks::busy, x -> x.moves(2, 5));
        due("only the input has a call", NONE, () -> loaded("C4444c0000").moves(0, 5));
        due("only the output has a call", NONE, () -> loaded("C4444c0000").moves(5, 0));
        due("only the output is a second one", NONE, () -> loaded("C4444c0000j0005").moves(9, 5));
        due("a new object", 0, () -> new SwitchRows().moves(5, 5));
        due("the full network", NONE, () -> full().moves(15, 15));
        String text = "C4424b0c0202c1312c1107b0c0701c0009c0813";
        due("three moves with the patience 3", 3, () -> loaded(text + "p3").moves(5, 4));
        due("three moves with the patience 2", NONE, () -> loaded(text + "p2").moves(5, 4));
        String four = "C3433b0b1c0107c0700c0811b1c0203j0304c0609b0c0308c1002p3";
        due("four moves", NONE, () -> loaded(four).moves(9, 5));
    }

    static void open() {
        sentence("Returns how many pairs of an input and an output, both without a call, there are for which connect() would"
            + " be possible and would move at most so many calls (with the patience as it is). most: 0 to 3");
        for (int n : new int[] {-1, 4, Integer.MIN_VALUE, Integer.MAX_VALUE}) {
            dueAndNothingElse("open(" + n + ")", ARGUMENT, Checks::busy, x -> x.open(n));
        }
        int[] want = {69, 73, 77, 81};
        for (int most = 0; most <= 3; most++) {
            for (int patience = 0; patience <= 3; patience++) {
                int m = most;
                SwitchRows x = loaded(LONG_WAYS + "p" + patience);
                due("open(" + most + ") with the patience " + patience, want[Math.min(most, patience)], () -> x.open(m));
            }
        }
        for (int most = 0; most <= 3; most++) {
            int m = most;
            due("the empty network", 256, () -> loaded("C4444").open(m));
            due("the full network", 0, () -> full().open(m));
            due("the smallest network", 1, () -> loaded("C1111").open(m));
            due("no whole board", 0, () -> loaded("C1111b0").open(m));
            due("inputs are free, outputs are not", 0, () -> loaded("C2241c0000c0101").open(m));
            due("outputs are free, inputs are not", 0, () -> loaded("C1242c0000c0101").open(m));
            due("another output takes pairs, too", 18, () -> loaded("C2232c0000j0003").open(m) + 12);
        }
    }

    static void fewest() {
        sentence("Returns the smallest number of middle boards, none of them broken, whatever boards there are, with which"
            + " there would be a plan for all calls as they are (0 without calls).");
        due("a new object", 0, () -> new SwitchRows().fewest());
        due("without calls, all broken", 0, () -> loaded("C1141b0b1b2b3").fewest());
        due("the calls ended", 0, () -> loaded("C1111c0000h00").fewest());
        due("the full network", 4, () -> full().fewest());
        due("one call by the last board", 1, () -> loaded("C4444b0b1b2c0000").fewest());
        due("two of two boards, one would do", 1, () -> loaded("C4224b0c0503b0c0201").fewest());
        due("four of four boards, one would do", 1, () -> loaded("C4244b0b1b2c0404b2c0306b1c0000b0c0702").fewest());
        due("four of four boards, two would do", 2, () -> loaded("C2342b0b1b2c0003b2c0504b1c0200b0c0402").fewest());
        due("four of four boards, three would do", 3, () -> loaded("C2342b0b1b2c0501b2c0300b1c0205b0c0404").fewest());
        due("four of four boards, all are needed", 4, () -> loaded("C4442b0b1b2c1000b2c0702b1c0203b0c1101").fewest());
        due("three of three, by pairs that share no link", 3, () -> loaded("C4243c0000c0202j0004c0305j0101c0403").fewest());
        due("the others are broken", 2, () -> loaded("C2242b2b3c0000c0101").fewest());
        due("two, though the first free board is not the best", 2, () -> loaded("C4342c0100c0205c0403").fewest());
        due("two, though the first way to place them fails", 2, () -> loaded("C2433c0510c0401c0007c0303").fewest());
        due("the calls that have many outputs", 1, () -> loaded("C4444c0000j0004j0008j0012").fewest());
        due("they hinder all others", 2, () -> loaded("C4444c0000j0004j0008j0012c0401").fewest());
        dueAndNothingElse("the busy one", 2, Checks::busy, x -> x.fewest());
    }

    static void weakest() {
        sentence("of the middle board that is not broken and without which there would still be a plan ... NONE if there is"
            + " none");
        due("without calls", 0, () -> new SwitchRows().weakest());
        due("without calls, one board", 0, () -> loaded("C1111").weakest());
        due("without calls, one whole board", 3, () -> loaded("C1141b0b1b2").weakest());
        due("without calls, no whole board", NONE, () -> loaded("C1141b0b1b2b3").weakest());
        due("one call, one board", NONE, () -> loaded("C1111c0000").weakest());
        due("one call, one whole board", NONE, () -> loaded("C1121b1c0000").weakest());
        due("one call, two boards", 1, () -> loaded("C1121c0000").weakest());
        due("the full network", NONE, () -> full().weakest());
        due("a call with four outputs", 1, () -> loaded("C1444c0000j0004j0008j0012").weakest());
        SwitchRows x = loaded("C1121c0000b1");
        x.setBroken(1, false);
        due("the other one is mended", 1, () -> x.weakest());
        sentence("10 * (the fewest calls, of all, that would have to go by another board) ... (whatever the patience is)");
        String[] texts = {"C4422b0c0903b0c0304", "C4424b0c1009c0501b0c1206c0213", "C3334b0b1c0406b1c0504c0110b0c0705c0208",
            "C4433b0b1c0703c0110b1c1004c1200b0c0506c1409",
            "C3443b0b1b2c0001j0008c0907b2c0610b1c0211c1102c0505b0c0106c0400"};
        for (int n = 1; n <= texts.length; n++) {
            for (int patience = 0; patience <= 3; patience++) {
                String text = texts[n - 1] + "p" + patience;
                int want = 10 * n;
                due(text, want, () -> loaded(text).weakest());
            }
        }
    }

    static void weakestAmongSeveral() {
        sentence("10 * (the fewest calls ...) + (the middle board) ... with the fewest such calls, among several the lowest"
            + " board");
        due("all are unused", 0, () -> loaded("C4444").weakest());
        due("three are unused", 1, () -> loaded("C4444c0000").weakest());
        due("one is unused", 3, () -> loaded("C4444c0000c0101c0202").weakest());
        due("the lowest is unused, but broken", 2, () -> loaded("C4444b1c0000").weakest());
        due("the second has fewer", 11, () -> loaded("C4324b0c0806b0c0103c0910").weakest());
        due("the third has fewer", 12, () -> loaded("C3233b0b1c0104b1c0303c0400b0c0505").weakest());
        due("the fourth has fewer", 13, () -> loaded("C4343b0b1b2c0708b2c1100c0105b1c0801b0c0602").weakest());
        due("two of the fourth", 23, () -> loaded("C3344b0b1b2c0208c0704b2c0105b1c0010c0306b0c0611c0503").weakest());
        due("three of the second", 31, () -> loaded("C3334b0b1c0004b1c0507c0603b0c0810c0301c0108").weakest());
        due("four of the third",
            42, () -> loaded("C4444b0b1b2c1004c0708c1501b2c1312c0309b1c0200c1205c0515b0c0614c0906c0002").weakest());
        due("two with as many", 10, () -> loaded(TWO_APART).weakest());
    }

    // ---- scripts, simulations

    static void scriptLength() {
        sentence("n: number of commands, 1 to 3; script: the commands, a number of at most 5 * n digits (0 or more)");
        long[] tooLong = {100000L, 10000000000L, 1000000000000000L};
        for (int n = 1; n <= 3; n++) {
            int commands = n;
            long least = tooLong[n - 1];
            due(n + " commands, the most digits", 0, () -> busy().runScript(commands, least - 1));
            due(n + " commands, 0", 0, () -> busy().runScript(commands, 0L));
            long[] scripts = {least, -1L, Long.MAX_VALUE, Long.MIN_VALUE, least + 90000L, -90000L};
            for (long script : scripts) {
                dueAndNothingElse(n + " commands, " + script, ARGUMENT, Checks::busy, x -> x.runScript(commands, script));
            }
        }
        for (int n : new int[] {0, 4, -1, Integer.MIN_VALUE, Integer.MAX_VALUE}) {
            dueAndNothingElse("n is " + n, ARGUMENT, Checks::busy, x -> x.runScript(n, 90000L));
            due("n is " + n + ", the script 0", ARGUMENT, () -> busy().runScript(n, 0L));
        }
        due("one command", NONE, () -> busy().runScript(1, 90000L));
        due("zeros before it", 0, () -> busy().runScript(2, 90000L));
        due("two commands", NONE, () -> busy().runScript(2, 9000090000L));
        due("zeros before two", 0, () -> busy().runScript(3, 9000090000L));
        due("three commands", NONE, () -> busy().runScript(3, 900009000090000L));
        sentence("Returns the index, from 0, of the first command that fails; NONE if all succeed.");
        due("the first", 0, () -> busy().runScript(3, 999999999999999L));
        due("the second", 1, () -> busy().runScript(3, 900009999999999L));
        due("the third", 2, () -> busy().runScript(3, 900009000099999L));
        due("the second of two", 1, () -> busy().runScript(2, 9000000000L));
    }

    /** The script of one command, on the busy object, and what is due: it succeeds, or it fails. */
    static void dueScript(int group, boolean succeeds) {
        due("the script " + group, succeeds ? NONE : 0, () -> busy().runScript(1, group));
    }

    static void scriptPlaces() {
        sentence("The commands 1 to 6 fail if the method would throw an exception; commands with inputs, outputs, boards or"
            + " calls that do not exist fail");
        // Free are the inputs 2 and 4 and the output 5; board 2 is broken; call 1 has the outputs 0 and 1.
        SwitchRows x = busy();
        x.hang(3);
        for (int i = 0; i <= 99; i++) {
            for (int y : new int[] {0, 2, 5, 6, 99}) {
                boolean free = i == 4 || i == 5;
                int group = 10000 + 100 * i + y;
                due("the script " + group, free && y == 2 ? NONE : 0, () -> x.runScript(1, group));
            }
            dueScript(30000 + 100 * i, i <= 3);
            dueScript(40000 + i, i <= 1);
            dueScript(60000 + i, i <= 3);
            for (int m = 0; m <= 9; m++) {
                int board = i <= 1 ? 0 : 1;
                dueScript(70000 + 100 * i + m, i <= 3 && m == board);
            }
        }
        for (int c = 0; c <= 99; c++) {
            int group = 20000 + 100 * c + 2;
            // Call 0 is blocked there.
            boolean can = c == 1 || c == 2;
            due("the script " + group, can ? NONE : 0, () -> x.runScript(1, group));
        }
        due("join to a taken output", 0, () -> x.runScript(1, 20001L));
        due("join to no output", 0, () -> x.runScript(1, 20006L));
        for (int m = 0; m <= 9; m++) {
            for (int b = 0; b <= 9; b++) {
                dueScript(50000 + 1000 * m + 100 * b, m <= 2 && (b == 0 || b == 1 && m == 2));
            }
        }
    }

    static void scriptsThatAnswerZero() {
        sentence("The commands 1 to 6 fail if the method would throw an exception (not if it answers 0)");
        SwitchRows one = loaded("C1111c0000");
        due("the last call ends", NONE, () -> one.runScript(2, 3000080000L));
        due("no call is left to end", 1, () -> one.runScript(2, 3000030000L));
        SwitchRows none = loaded("C1111p0");
        due("the last whole board is broken", NONE, () -> none.runScript(1, 50100L));
        due("then a call is blocked", 1, () -> none.runScript(2, 5010010000L));
        due("the patience was 0", NONE, () -> none.runScript(1, 60003L));
        due("no call moves", NONE, () -> none.runScript(1, 10000L));
    }

    static void scriptZeros() {
        sentence("and so does any other group (also one with another digit where a 0 is written)");
        int[] good = {30000, 40000, 52100, 60000, 70000, 80008, 90004};
        int[][] zeros = {{10, 1}, {1000, 100}, {10, 1}, {1000, 100, 10}, {10}, {1000, 100}, {1000, 100}};
        for (int i = 0; i < good.length; i++) {
            dueScript(good[i], true);
            for (int place : zeros[i]) {
                for (int digit = 1; digit <= 9; digit++) {
                    dueScript(good[i] + digit * place, false);
                }
            }
        }
        for (int group = 0; group <= 9999; group += 101) {
            dueScript(group, false);
        }
        dueScript(9999, false);
    }

    static void scriptComparisons() {
        sentence("8 0 0 n n: succeeds if at most nn links have a call. 9 0 0 n n: succeeds if there are at least nn calls.");
        for (int n = 0; n <= 99; n++) {
            dueScript(80000 + n, n >= 8);
            dueScript(90000 + n, n <= 4);
            int group = n;
            due("the full network, links, " + n, n >= 32 ? NONE : 0, () -> full().runScript(1, 80000 + group));
            due("the full network, calls, " + n, n <= 16 ? NONE : 0, () -> full().runScript(1, 90000 + group));
            due("without calls, links, " + n, NONE, () -> new SwitchRows().runScript(1, 80000 + group));
            due("without calls, calls, " + n, n == 0 ? NONE : 0, () -> new SwitchRows().runScript(1, 90000 + group));
        }
    }

    static void scriptOnACopy() {
        sentence("Runs a script on a copy of the state.");
        dueAndNothingElse("all calls but one end", NONE, Checks::busy, x -> x.runScript(3, 300003000030000L));
        dueAndNothingElse("one ends, then one is made", NONE, Checks::busy, x -> x.runScript(2, 3030010502L));
        dueAndNothingElse("mended, and used", NONE, Checks::busy, x -> x.runScript(3, 520001020570402L));
        dueAndNothingElse("mended, and used, by board 1", 2, Checks::busy, x -> x.runScript(3, 520001020570401L));
        dueAndNothingElse("the last one fails", 2, Checks::busy, x -> x.runScript(3, 300003000039900L));
        due("the copy starts anew each time", NONE, () -> {
            SwitchRows x = busy();
            x.runScript(3, 300003000030000L);
            return x.runScript(1, 90004L);
        });
        due("a blocked call for the patience of the script", 1, () -> loaded(TWO_APART).runScript(2, 6000010103L));
        due("a call that moves another, for the patience of the script", NONE,
            () -> loaded(TWO_APART + "p0").runScript(3, 600011010370000L));
    }

    static void simulateTurns() {
        sentence("m: number of turns, 1 to 60");
        for (int m : new int[] {0, 61, -1, Integer.MIN_VALUE, Integer.MAX_VALUE}) {
            dueAndNothingElse(m + " turns", ARGUMENT, Checks::busy, x -> x.simulate(1L, m));
        }
        dueSimulation(Checks::busy, 1L, 1);
        dueSimulation(Checks::busy, 1L, 60);
        sentence("c is r / 8 % (the number of calls, or 1 without one)");
        for (long seed = 0; seed < 40; seed++) {
            dueSimulation(SwitchRows::new, seed, 1);
            dueSimulation(() -> loaded("C1111b0"), seed, 60);
            dueSimulation(() -> loaded("C1111c0000"), seed, 60);
        }
    }

    static void simulateWrapsAround() {
        sentence("x * 6364136223846793005L + 1442695040888963407L (with long overflow), and r = (int) (x >>> 33)");
        long[] seeds = {0L, 1L, -1L, Long.MAX_VALUE, Long.MIN_VALUE, Long.MAX_VALUE - 1, Long.MIN_VALUE + 1, 1L << 33, 1L << 32,
            1L << 62, 0xDEADBEEFL, -6364136223846793005L};
        for (long seed : seeds) {
            for (int m : new int[] {1, 2, 3, 59, 60}) {
                dueSimulation(Checks::busy, seed, m);
                dueSimulation(() -> loaded(LONG_WAYS), seed, m);
                dueSimulation(Checks::full, seed, m);
                dueSimulation(() -> loaded("C4444"), seed, m);
            }
        }
        // Its first x is -1, so that r is the largest there is: 2147483647 % 8 is 7, and nothing can be dropped.
        long inverse = 1L;
        for (int i = 0; i < 6; i++) {
            inverse *= 2 - 6364136223846793005L * inverse;
        }
        long largest = (-1L - 1442695040888963407L) * inverse;
        due("the largest r", 0, () -> new SwitchRows().simulate(largest, 1));
        // Its first x is 0, so that r is 0: a call from input 0 to output 0.
        long zero = -1442695040888963407L * inverse;
        due("the smallest r", 1, () -> new SwitchRows().simulate(zero, 1));
    }

    /** Compares a simulation with the same turns by the public actions. */
    static void dueSimulation(Maker maker, long seed, int m) {
        SwitchRows x = maker.make();
        long want = turnsByHand(maker.make(), seed, m);
        due("simulate(" + seed + ", " + m + ")", want, () -> x.simulate(seed, m));
    }

    // ---- save slots

    static void save() {
        sentence("Stores the present state in a save slot. Returns the number of calls.");
        for (int n : new int[] {-1, 2, Integer.MIN_VALUE, Integer.MAX_VALUE}) {
            dueAndNothingElse("save(" + n + ")", INDEX, Checks::busy, x -> x.save(n));
            dueAndNothingElse("restore(" + n + ")", INDEX, Checks::busy, x -> x.restore(n));
        }
        due("without calls", 0, () -> new SwitchRows().save(0));
        due("with all calls", 16, () -> full().save(1));
        SwitchRows x = busy();
        String saved = view(x);
        due("four calls", 4, () -> x.save(0));
        dueView("the state stays", saved, x);
        due("the remembered states stay", 13, () -> x.undo());
        due("all of them", 12, () -> x.undo());
        due("the other slot stays", 4, () -> x.restore(1));
        due("with its own call", 4, () -> x.call(3, 0));
        due("the slot is written over", 4, () -> x.restore(0));
        dueView("with the state of then", saved, x);
        SwitchRows y = new SwitchRows();
        y.save(0);
        due("the other slot is still empty", STATE, () -> y.restore(1));
        SwitchRows z = new SwitchRows();
        z.save(1);
        due("slot 0 is still empty", STATE, () -> z.restore(0));
    }

    static void restore() {
        sentence("Replaces the state by the one in a save slot, and forgets all remembered states. The save slot keeps it."
            + " Throws IllegalStateException if nothing has been saved in it since the last load");
        Maker noSlots = () -> {
            SwitchRows x = loaded(TWO_APART);
            x.connect(1, 3);
            return x;
        };
        dueAndNothingElse("slot 0 is empty", STATE, noSlots, x -> x.restore(0));
        dueAndNothingElse("slot 1 is empty", STATE, noSlots, x -> x.restore(1));
        for (int slot = 0; slot < 2; slot++) {
            int s = slot;
            SwitchRows x = loaded("C2232b0c0202b0c0000b2");
            String saved = view(x);
            x.save(s);
            for (int times = 0; times < 3; times++) {
                x.setPatience(3);
                x.connect(1, 3);
                x.hang(0);
                x.setBroken(2, false);
                due("two calls then", 2, () -> x.restore(s));
                dueView("the saved state", saved, x);
                due("no state is remembered", STATE, () -> x.undo());
            }
            x.setPatience(1);
            due("a slot that is empty", STATE, () -> x.restore(1 - s));
            due("the action behind the restore is remembered", 0, () -> x.undo());
            x.save(1 - s);
            write(x, "C111");
            due("a load that throws", STATE, () -> x.load());
            due("it leaves the slot", 2, () -> x.restore(s));
            x.append('1');
            x.load();
            due("a load empties the slot", STATE, () -> x.restore(s));
            due("and the other one", STATE, () -> x.restore(1 - s));
            x.save(s);
            due("saved behind the load", 0, () -> x.restore(s));
            due("with the boards of then", 1, () -> x.about(0));
            due("the text stays", 5, () -> x.clearText());
        }
    }

    static void afterManyCalls() {
        sentence("An object is used for at most 512 calls after it has been made");
        SwitchRows x = new SwitchRows();
        for (int round = 0; round < 102; round++) {
            int i = round % 6;
            int remembered = Math.min(REMEMBERED, 3 * round + 3);
            due("connect in round " + round, 0, () -> x.connect(i, 5 - i));
            due("join in round " + round, 0, () -> x.join(0, (6 - i) % 6));
            due("hang in round " + round, 0, () -> x.hang(0));
            due("undo in round " + round, remembered - 1, () -> x.undo());
            due("hang again in round " + round, 0, () -> x.hang(0));
        }
        due("call 511", 36, () -> x.open(3));
        due("call 512", 13, () -> x.undo());
    }
}
