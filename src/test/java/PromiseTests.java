/** At least one test for each promise of the document: ordinary inputs, the edges it names, and wrong inputs. */
public final class PromiseTests extends Checks {
    public static void main(String[] args) {
        newObject();
        append();
        clearText();
        errorPosition();
        load();
        about();
        call();
        link();
        at();
        thanks();
        connect();
        bestPlan();
        join();
        hang();
        drop();
        setBroken();
        setPatience();
        undo();
        moves();
        open();
        fewest();
        weakest();
        runScript();
        simulate();
        save();
        restore();
        end();
    }

    static void newObject() {
        promise = "promise 1";
        SwitchRows x = new SwitchRows();
        long[] numbers = {3, 2, 3, 3, 0, 2, 0, 0, 0, 0};
        for (int what = 0; what <= 9; what++) {
            int w = what;
            due("about(" + what + ")", numbers[what], () -> x.about(w));
        }
        due("no text", 0, () -> x.clearText());
        due("no state remembered", STATE, () -> x.undo());
        due("slot 0 is empty", STATE, () -> x.restore(0));
        due("slot 1 is empty", STATE, () -> x.restore(1));
        due("no call", INDEX, () -> x.call(0, 0));
    }

    static void append() {
        promise = "promise 2";
        SwitchRows x = new SwitchRows();
        due("code 0", 1, () -> x.append(0));
        due("code 255", 2, () -> x.append(255));
        due("code -1", ARGUMENT, () -> x.append(-1));
        due("code 256", ARGUMENT, () -> x.append(256));
        due("least int", ARGUMENT, () -> x.append(Integer.MIN_VALUE));
        for (int n = 3; n <= 120; n++) {
            int length = n;
            due("character " + n, length, () -> x.append('C'));
        }
        due("character 121", STATE, () -> x.append('C'));
        due("the range is looked at first", ARGUMENT, () -> x.append(256));
        due("the length stayed", 120, () -> x.clearText());
        due("there is room again", 1, () -> x.append('C'));
    }

    static void clearText() {
        promise = "promise 3";
        SwitchRows x = new SwitchRows();
        due("without text", 0, () -> x.clearText());
        write(x, "C2222");
        due("five characters", 5, () -> x.clearText());
        due("they are gone", 0, () -> x.clearText());
        due("nothing is read", 0, () -> x.errorPosition());
        due("the boards stay", 3, () -> x.about(0));
    }

    static void dueError(String text, int want) {
        SwitchRows x = new SwitchRows();
        write(x, text);
        due("errorPosition of \"" + text + "\"", want, () -> x.errorPosition());
        due("load of \"" + text + "\"", want == NONE ? 1 : STATE, () -> Math.min(1, 1 + x.load()));
    }

    static void errorPosition() {
        promise = "promise 4";
        dueError("", 0);
        dueError("c1111", 0);
        dueError(" C1111", 0);
        dueError("C", 1);
        dueError("C0111", 1);
        dueError("C1511", 2);
        dueError("C11a1", 3);
        dueError("C1110", 4);
        dueError("C1115", 4);
        dueError("C111", 4);
        dueError("C1111", NONE);
        dueError("C4444", NONE);
        dueError("C1111 ", 5);
        dueError("C1111C1111", 5);
        dueError("C1111d", 5);
        dueError("C3233c", 6);
        dueError("C3233c0", 7);
        dueError("C3233c1", 6);
        dueError("C3233c06", 7);
        dueError("C3233c05", 8);
        dueError("C3233c0506", 9);
        dueError("C3233c0505", NONE);
        dueError("C3233c05050", 10);
        dueError("C4441c15", 8);
        dueError("C4441c1504", 9);
        dueError("C4441c1510", 8);
        dueError("C4441c1503", NONE);
        dueError("C4441c16", 7);
        dueError("C4441c20", 6);
        dueError("C4441c09", 8);
        dueError("C1444c0010", NONE);
        dueError("C1444c0016", 9);
        dueError("C1414j1503", NONE);
        dueError("C1414j1500", NONE);
        dueError("C1414j1600", 7);
        dueError("C1414j2", 6);
        dueError("C1411j0004", 9);
        dueError("C1411j0003", NONE);
        dueError("C1414h15", NONE);
        dueError("C1414h16", 7);
        dueError("C1414h2", 6);
        dueError("C1414h1", 7);
        dueError("C1414b0", NONE);
        dueError("C1414b1", 6);
        dueError("C1444b3", NONE);
        dueError("C1444b4", 6);
        dueError("C1444b", 6);
        dueError("C1444p0p3", NONE);
        dueError("C1444p4", 6);
        dueError("C1444p", 6);
        dueError("C1111c0000j0000h00b0p1", NONE);
        StringBuilder full = new StringBuilder("C1111");
        while (full.length() < 119) {
            full.append("b0");
        }
        dueError(full.toString(), NONE);
        dueError(full + "b", 120);
        SwitchRows x = new SwitchRows();
        write(x, "C4444c0000");
        String before = view(x);
        due("a good text", NONE, () -> x.errorPosition());
        dueView("a text that is only checked", before, x);
    }

    static void load() {
        promise = "promise 5";
        SwitchRows x = new SwitchRows();
        x.connect(0, 0);
        x.setPatience(3);
        x.setBroken(2, true);
        x.save(0);
        x.save(1);
        due("without text", STATE, () -> x.load());
        due("nothing was lost", 1, () -> x.restore(1));
        x.hang(0);
        write(x, "C1234");
        due("boards alone", 0, () -> x.load());
        dueView("boards alone", "1 2 3 4 0 2 0 0 0 0 ; 0 0; 0 0", x);
        due("no state is remembered", STATE, () -> x.undo());
        due("slot 0 is empty", STATE, () -> x.restore(0));
        due("slot 1 is empty", STATE, () -> x.restore(1));
        due("the text is kept", 0, () -> x.load());
        due("its length", 5, () -> x.clearText());

        SwitchRows y = new SwitchRows();
        // Left out are: the taken input, the missing calls, the taken output, the board with a call.
        write(y, "C3233c0000c0001h05j0501c0100b0b2p3c0101j0002");
        due("commands left out", 5, () -> y.load());
        dueView("what the commands did", "3 2 3 3 2 3 0 5 4 3 | 0 5 0 0 3 | 1 2 1 0 2 ; 0 0; 0 0; 0 0; 0 0; 0 0; 0 0", y);
        due("commands are no actions", STATE, () -> y.undo());
        write(y, "C1121b0b0b1b1");
        due("a board is broken, then mended", 0, () -> y.load());
        due("none is broken", 0, () -> y.about(8));
        write(y, TWO_APART + "p0c0103p1c0103");
        due("a blocked call is left out", 1, () -> y.load());
        due("one call moved", 1, () -> y.about(6));
        write(y, "C2222");
        y.load();
        due("the moved calls are forgotten", 0, () -> y.about(6));
        due("the thanks owed, too", 0, () -> y.thanks(1, true));
        due("the thanks got, too", 0, () -> y.thanks(2, false));
        write(y, "C4444c0000c0101c0202c0303j0004c0405");
        due("a fifth call finds a board", 0, () -> y.load());
    }

    static void about() {
        promise = "promise 6";
        SwitchRows x = loaded("C4321c0000c0301j0102b1p1");
        // Both calls go to the only last board: the second one by middle board 1, so that this can't be broken.
        long[] numbers = {4, 3, 2, 1, 2, 1, 0, 4, 0, 3};
        for (int what = 0; what <= 9; what++) {
            int w = what;
            due("about(" + what + ")", numbers[what], () -> x.about(w));
        }
        due("about(-1)", ARGUMENT, () -> x.about(-1));
        due("about(10)", ARGUMENT, () -> x.about(10));
        SwitchRows y = loaded("C1142b0b2b3");
        due("three broken boards", 13, () -> y.about(8));
        SwitchRows z = loaded(TWO_APART + "c0103");
        due("a call moved", 1, () -> z.about(6));
        z.hang(0);
        due("it ended, but it moved", 1, () -> z.about(6));
    }

    /** Call 0 moves for a new call, then for another output of call 1, then for another output of its own. */
    static SwitchRows movedThreeTimes() {
        SwitchRows x = loaded(TWO_APART);
        x.connect(3, 1);
        x.hang(2);
        x.connect(1, 1);
        x.join(1, 3);
        x.hang(1);
        x.join(0, 0);
        return x;
    }

    static void call() {
        promise = "promise 7";
        SwitchRows x = loaded(TWO_APART + "c0103");
        due("the first call's input", 2, () -> x.call(0, 0));
        due("the second call's input", 0, () -> x.call(1, 0));
        due("the third call's input", 1, () -> x.call(2, 0));
        due("the third call's outputs", 8, () -> x.call(2, 1));
        SwitchRows y = loaded("C3233c0503j0304c0001j0000j0005j0002");
        due("outputs", 1 + 4 + 8 + 32, () -> y.call(0, 1));
        due("links to all last boards", 4, () -> y.call(0, 4));
        due("middle board of another", 1, () -> y.call(1, 2));
        due("links of another", 2, () -> y.call(1, 4));
        due("the first call moved once", 1, () -> x.call(0, 3));
        due("the new one did not move", 0, () -> x.call(2, 3));
        SwitchRows z = movedThreeTimes();
        due("it moved three times", 3, () -> z.call(0, 3));
        due("three moves in all", 3, () -> z.about(6));
        due("call -1", INDEX, () -> x.call(-1, 0));
        due("call 3 of three", INDEX, () -> x.call(3, 0));
        due("the call is looked at first", INDEX, () -> x.call(3, 5));
        due("what 5", ARGUMENT, () -> x.call(2, 5));
        due("what -1", ARGUMENT, () -> x.call(2, -1));
    }

    static void link() {
        promise = "promise 8";
        SwitchRows x = loaded("C2312c0000c0105c0303j0104");
        // One middle board: the second call from board 0 is blocked, so the calls are 0 to 0 and 3 to 3 and 4.
        due("the calls", 2, () -> x.about(4));
        due("from board 0", 0, () -> x.link(false, 0, 0));
        due("from board 1", 1, () -> x.link(false, 0, 1));
        due("to board 0", 0, () -> x.link(true, 0, 0));
        due("to board 1", 1, () -> x.link(true, 0, 1));
        due("no middle board 1", INDEX, () -> x.link(true, 1, 0));
        due("no middle board -1", INDEX, () -> x.link(true, -1, 0));
        SwitchRows z = loaded("C3233c0005");
        due("from the input's board", 0, () -> z.link(false, 0, 0));
        due("not from the output's one", NONE, () -> z.link(false, 0, 2));
        due("to the output's board", 0, () -> z.link(true, 0, 2));
        due("not to the input's one", NONE, () -> z.link(true, 0, 0));
        due("not by another middle board", NONE, () -> z.link(true, 1, 2));
        SwitchRows y = loaded("C3224");
        due("no call", NONE, () -> y.link(true, 1, 3));
        due("no call from there", NONE, () -> y.link(false, 1, 2));
        due("no first board 3", INDEX, () -> y.link(false, 1, 3));
        due("no last board 4", INDEX, () -> y.link(true, 1, 4));
        due("no first board -1", INDEX, () -> y.link(false, 1, -1));
        due("no last board -1", INDEX, () -> y.link(true, 1, -1));
    }

    static void at() {
        promise = "promise 9";
        SwitchRows x = loaded("C3212c0503c0200j0101");
        due("input of call 0", 0, () -> x.at(false, 5));
        due("input of call 1", 1, () -> x.at(false, 2));
        due("free input", NONE, () -> x.at(false, 3));
        due("output of call 0", 0, () -> x.at(true, 3));
        due("first output of call 1", 1, () -> x.at(true, 0));
        due("other output of call 1", 1, () -> x.at(true, 1));
        due("free output", NONE, () -> x.at(true, 2));
        due("no output 4", INDEX, () -> x.at(true, 4));
        due("but an input 4", NONE, () -> x.at(false, 4));
        due("no input 6", INDEX, () -> x.at(false, 6));
        due("no input -1", INDEX, () -> x.at(false, -1));
        due("no output -1", INDEX, () -> x.at(true, -1));
    }

    static void thanks() {
        promise = "promise 10";
        SwitchRows x = loaded(TWO_APART);
        due("one moves", 1, () -> x.connect(1, 3));
        due("the moved one's input got one", 1, () -> x.thanks(2, false));
        due("it owes none", 0, () -> x.thanks(2, true));
        due("the new one's input owes one", 1, () -> x.thanks(1, true));
        due("it got none", 0, () -> x.thanks(1, false));
        due("the one that stayed got none", 0, () -> x.thanks(0, false));
        x.hang(0);
        due("the input keeps it", 1, () -> x.thanks(2, false));
        SwitchRows y = movedThreeTimes();
        due("two of three moves were for others", 2, () -> y.thanks(2, false));
        due("the third one was for itself", 0, () -> y.thanks(2, true));
        due("one was for a new call, which ended", 1, () -> y.thanks(3, true));
        due("one was for another output of a call, which ended", 1, () -> y.thanks(0, true));
        due("input -1", INDEX, () -> x.thanks(-1, true));
        due("input 4 of four", INDEX, () -> x.thanks(4, false));
    }

    static void connect() {
        promise = "promise 11";
        SwitchRows x = new SwitchRows();
        due("a first call", 0, () -> x.connect(0, 0));
        due("it goes by the lowest board", 0, () -> x.call(0, 2));
        due("from the same first board", 0, () -> x.connect(1, 2));
        due("by the next board", 1, () -> x.call(1, 2));
        due("from another one to the same last one", 0, () -> x.connect(2, 3));
        due("by the lowest that is free", 0, () -> x.call(2, 2));
        String before = view(x);
        due("taken input", STATE, () -> x.connect(0, 5));
        due("taken output", STATE, () -> x.connect(5, 0));
        due("no input 6", INDEX, () -> x.connect(6, 5));
        due("no output 6", INDEX, () -> x.connect(5, 6));
        due("no input -1", INDEX, () -> x.connect(-1, 5));
        due("no output -1", INDEX, () -> x.connect(5, -1));
        due("a missing output before a taken input", INDEX, () -> x.connect(0, 6));
        due("great numbers", INDEX, () -> x.connect(Integer.MAX_VALUE, Integer.MIN_VALUE));
        dueView("calls that throw", before, x);
        due("three actions are remembered", 2, () -> x.undo());
        SwitchRows y = loaded("C1211c0000");
        due("the only link is taken", STATE, () -> y.connect(1, 0));
        SwitchRows z = loaded("C1121b0b1");
        due("all boards are broken", STATE, () -> z.connect(0, 0));
    }

    static void bestPlan() {
        promise = "promise 11, moving over";
        SwitchRows x = loaded(TWO_APART);
        due("one moves", 1, () -> x.connect(1, 3));
        // Both old calls could make room; the plan with the lower board for the first call moves that one.
        dueView("one moved", "2 2 2 2 3 2 1 6 0 3 | 2 4 0 1 2 | 0 1 0 0 2 | 1 8 1 0 2 ; 0 0; 1 0; 0 1; 0 0", x);
        SwitchRows y = loaded("C2222c0101c0000c0202h00");
        // Here the first call goes by board 1, the second one by board 0: now the second one's room counts less.
        due("the boards before", 1, () -> y.call(0, 2) - y.call(1, 2));
        due("one moves", 1, () -> y.connect(1, 3));
        due("the first one went to the lower board", 0, () -> y.call(0, 2));
        due("the second one stayed", 0, () -> y.call(1, 2));
        SwitchRows z = loaded(TWO_APART);
        z.setPatience(0);
        String before = view(z);
        due("without patience", STATE, () -> z.connect(1, 3));
        dueView("a blocked call", before, z);
        z.setPatience(1);
        due("with just enough patience", 1, () -> z.connect(1, 3));
        SwitchRows w = loaded("C2232" + TWO_APART.substring(5));
        due("no one moves if a board is free", 0, () -> w.connect(1, 3));
        due("it goes by that", 2, () -> w.call(2, 2));
        SwitchRows u = loaded("C2222c0202c0000j0103h01c0101");
        due("a new call did not move, though the one that had its number did", 0, () -> u.call(1, 3));
        SwitchRows v = loaded("C2232" + TWO_APART.substring(5) + "b2");
        due("but not by a broken one", 1, () -> v.connect(1, 3));
    }

    static void join() {
        promise = "promise 12";
        SwitchRows x = loaded("C2222c0000c0202");
        due("both go by board 0", 0, () -> x.call(0, 2) + x.call(1, 2));
        due("the other one moves", 1, () -> x.join(0, 3));
        dueView("the other one moved", "2 2 2 2 2 2 1 5 0 3 | 0 9 0 0 3 | 2 4 1 1 2 ; 1 0; 0 0; 0 1; 0 0", x);
        SwitchRows y = loaded("C2222c0202c0000");
        due("it moves itself", 1, () -> y.join(1, 3));
        dueView("no thanks for its own move", "2 2 2 2 2 2 1 5 0 3 | 2 4 0 0 2 | 0 9 1 1 3 ; 0 0; 0 0; 0 0; 0 0", y);
        SwitchRows z = loaded("C2222c0202c0000p0");
        due("its own move takes patience, too", STATE, () -> z.join(1, 3));
        due("it has its output alone", 1, () -> z.call(1, 1));
        due("an output at the same last board", 0, () -> z.join(1, 1));
        due("without another link", 2, () -> z.call(1, 4));
        due("taken output", STATE, () -> z.join(0, 0));
        due("its own output", STATE, () -> z.join(0, 2));
        due("no call 2", INDEX, () -> z.join(2, 3));
        due("no call -1", INDEX, () -> z.join(-1, 3));
        due("no output 4", INDEX, () -> z.join(0, 4));
        due("no output -1", INDEX, () -> z.join(0, -1));
        due("a missing call before a taken output", INDEX, () -> z.join(2, 0));
        SwitchRows v = loaded("C2222c0202h00b1c0202c0000");
        due("it can't move to a broken board", STATE, () -> v.join(1, 3));
        SwitchRows w = new SwitchRows();
        w.connect(5, 5);
        for (int n = 2; n <= 4; n++) {
            int output = n;
            due("output " + n, 0, () -> w.join(0, output));
        }
        due("a fifth output", STATE, () -> w.join(0, 0));
        due("four outputs", 4, () -> w.about(9));
    }

    static void hang() {
        promise = "promise 13";
        SwitchRows x = loaded("C4134c0000c0101c0202");
        due("no call 3", INDEX, () -> x.hang(3));
        due("no call -1", INDEX, () -> x.hang(-1));
        due("the middle one", 2, () -> x.hang(1));
        due("the first one stays", 0, () -> x.call(0, 0));
        due("the last one is number 1", 2, () -> x.call(1, 0));
        due("with its board", 0, () -> x.call(1, 2));
        due("with its output", 4, () -> x.call(1, 1));
        due("there is no call 2", INDEX, () -> x.call(2, 0));
        due("the input is free", NONE, () -> x.at(false, 1));
        due("again", 1, () -> x.hang(1));
        due("the last", 0, () -> x.hang(0));
        due("none is left", INDEX, () -> x.hang(0));
        SwitchRows y = loaded(TWO_APART + "c0103");
        y.hang(1);
        due("the moves stay with the call", 1, () -> y.call(0, 3));
        due("and do not come to another", 0, () -> y.call(1, 3));
        SwitchRows z = loaded("C2222c0202c0000j0103");
        due("the second one moved", 1, () -> z.call(1, 3));
        z.hang(0);
        due("as the first one it still did", 1, () -> z.call(0, 3));
    }

    static void drop() {
        promise = "promise 14";
        SwitchRows x = loaded("C3233c0000j0001j0005");
        due("free output", STATE, () -> x.drop(2));
        due("no output 6", INDEX, () -> x.drop(6));
        due("no output -1", INDEX, () -> x.drop(-1));
        due("one of three", 2, () -> x.drop(0));
        due("the link is still needed", 3, () -> x.call(0, 4));
        due("one of two", 1, () -> x.drop(1));
        due("now it is not", 2, () -> x.call(0, 4));
        due("the last output", STATE, () -> x.drop(5));
        due("it stays", 32, () -> x.call(0, 1));
    }

    static void setBroken() {
        promise = "promise 15";
        SwitchRows x = loaded("C2232c0000");
        due("a call goes by it", STATE, () -> x.setBroken(0, true));
        due("it is whole", 0, () -> x.about(8));
        due("mended, though it was whole", 3, () -> x.setBroken(0, false));
        due("broken", 2, () -> x.setBroken(2, true));
        due("broken again", 2, () -> x.setBroken(2, true));
        due("bit 2 is set", 4, () -> x.about(8));
        due("another one", 1, () -> x.setBroken(1, true));
        due("mended", 2, () -> x.setBroken(2, false));
        due("bit 1 is set", 2, () -> x.about(8));
        due("no board 3", INDEX, () -> x.setBroken(3, true));
        due("no board -1", INDEX, () -> x.setBroken(-1, false));
        SwitchRows y = loaded("C1121b0");
        y.connect(0, 0);
        due("calls leave it out", 1, () -> y.call(0, 2));
        due("all but one broken", STATE, () -> y.setBroken(1, true));
        y.hang(0);
        due("all broken", 0, () -> y.setBroken(1, true));
    }

    static void setPatience() {
        promise = "promise 16";
        SwitchRows x = new SwitchRows();
        due("at first", 2, () -> x.setPatience(0));
        due("least", 0, () -> x.setPatience(3));
        due("most", 3, () -> x.setPatience(3));
        due("-1", ARGUMENT, () -> x.setPatience(-1));
        due("4", ARGUMENT, () -> x.setPatience(4));
        due("it stayed", 3, () -> x.about(5));
        due("it is an action, also without a change", 2, () -> x.undo());
    }

    static void undo() {
        promise = "promise 17";
        SwitchRows x = loaded(TWO_APART);
        due("none is remembered", STATE, () -> x.undo());
        String before = view(x);
        x.connect(1, 3);
        due("a call that moved another one", 0, () -> x.undo());
        dueView("moves and thanks are taken back", before, x);
        SwitchRows y = new SwitchRows();
        y.setBroken(1, true);
        due("a broken board", 0, () -> y.undo());
        due("it is mended", 0, () -> y.about(8));
        String[] views = new String[21];
        for (int i = 0; i < 20; i++) {
            views[i] = view(x);
            if (i % 5 == 0) {
                x.connect(1, 3);
            } else if (i % 5 == 1) {
                x.join(x.at(false, 0), 1);
            } else if (i % 5 == 2) {
                x.drop(1);
            } else if (i % 5 == 3) {
                x.setPatience(3);
            } else {
                x.hang(x.at(false, 1));
            }
        }
        due("an action that throws is none", STATE, () -> x.connect(0, 1));
        due("nor is a wrong patience", ARGUMENT, () -> x.setPatience(4));
        for (int left = 13; left >= 0; left--) {
            int states = left;
            due("states left", states, () -> x.undo());
            dueView("the state with " + left + " more", views[6 + left], x);
        }
        due("the fifteenth was forgotten", STATE, () -> x.undo());
        dueView("the state then", views[6], x);
        x.setBroken(0, false);
        due("undo is no action", 0, () -> x.undo());
        due("so that it is not undone", STATE, () -> x.undo());
        write(x, "C1111");
        x.setPatience(1);
        x.save(1);
        x.setPatience(0);
        due("the text and the slots stay", 1, () -> x.undo());
        due("the text", 5, () -> x.clearText());
        x.restore(1);
        due("the slot", 1, () -> x.about(5));
    }

    static void moves() {
        promise = "promise 18";
        SwitchRows x = loaded(TWO_APART);
        String before = view(x);
        due("one", 1, () -> x.moves(1, 3));
        due("none", 0, () -> x.moves(1, 1));
        due("taken input", NONE, () -> x.moves(0, 1));
        due("taken output", NONE, () -> x.moves(1, 0));
        due("no input 4", INDEX, () -> x.moves(4, 1));
        due("no output 4", INDEX, () -> x.moves(1, 4));
        due("no input -1", INDEX, () -> x.moves(-1, 1));
        due("no output -1", INDEX, () -> x.moves(1, -1));
        due("a missing output before a taken input", INDEX, () -> x.moves(0, 4));
        dueView("a question", before, x);
        due("it is no action", STATE, () -> x.undo());
        x.setPatience(0);
        due("too many for the patience", NONE, () -> x.moves(1, 3));
    }

    static void open() {
        promise = "promise 19";
        SwitchRows x = new SwitchRows();
        due("all pairs", 36, () -> x.open(0));
        x.connect(0, 0);
        due("without those that are taken", 25, () -> x.open(3));
        SwitchRows y = loaded(TWO_APART);
        String before = view(y);
        due("without a move", 2, () -> y.open(0));
        due("with one", 4, () -> y.open(1));
        due("with more", 4, () -> y.open(3));
        due("-1", ARGUMENT, () -> y.open(-1));
        due("4", ARGUMENT, () -> y.open(4));
        dueView("a question", before, y);
        due("it is no action", STATE, () -> y.undo());
        y.setPatience(0);
        due("the patience counts", 2, () -> y.open(3));
        SwitchRows z = loaded("C1432c0000");
        due("three inputs of one board, three outputs of one and four of the other", 21, () -> z.open(0));
        SwitchRows w = loaded("C1111c0000");
        due("nothing is free", 0, () -> w.open(3));
        SwitchRows v = loaded("C1111b0");
        due("nothing is whole", 0, () -> v.open(3));
    }

    static void fewest() {
        promise = "promise 20";
        SwitchRows x = loaded("C1111");
        due("without calls", 0, () -> x.fewest());
        x.connect(0, 0);
        due("with one", 1, () -> x.fewest());
        SwitchRows y = loaded(TWO_APART);
        due("though they go by two", 1, () -> y.fewest());
        y.connect(1, 3);
        due("two from one board", 2, () -> y.fewest());
        due("nobody moved for that", 1, () -> y.about(6));
        SwitchRows z = loaded("C1444c0000c0101c0202c0303b0");
        due("four from one board", 4, () -> z.fewest());
        SwitchRows w = loaded("C1444b0c0000c0101c0202");
        due("broken boards do not count", 3, () -> w.fewest());
        SwitchRows v = loaded("C4243c0000c0202j0004c0305j0101c0403");
        // Calls 0 and 1 share last board 0, 0 and 2 last board 2, 1 and 2 first board 1; call 3 shares one with call 1.
        due("three that hinder one another", 3, () -> v.fewest());
    }

    static void weakest() {
        promise = "promise 21";
        SwitchRows x = new SwitchRows();
        due("without calls", 0, () -> x.weakest());
        x.setBroken(0, true);
        due("a broken one can't be broken", 1, () -> x.weakest());
        x.setBroken(1, true);
        x.setBroken(2, true);
        due("all broken", NONE, () -> x.weakest());
        SwitchRows y = loaded("C1111");
        due("the only one, without calls", 0, () -> y.weakest());
        y.connect(0, 0);
        due("the only one, with a call", NONE, () -> y.weakest());
        SwitchRows z = loaded(TWO_APART);
        String before = view(z);
        due("one move, among two the lower board", 10, () -> z.weakest());
        dueView("a question", before, z);
        z.setPatience(0);
        due("whatever the patience is", 10, () -> z.weakest());
        z.setPatience(3);
        z.connect(1, 3);
        due("there would be no plan", NONE, () -> z.weakest());
        SwitchRows w = loaded("C4232c0000c0202p0b0p1");
        due("an unused one", 1, () -> w.weakest());
        w.connect(1, 1);
        due("still an unused one", 2, () -> w.weakest());
        w.setBroken(2, true);
        // Without board 1 there is no room for two calls from one first board.
        due("if that is broken", NONE, () -> w.weakest());
        SwitchRows v = loaded("C4124b0c0000b0c0101c0202c0303");
        due("one call there, three here", 11, () -> v.weakest());
        SwitchRows u = loaded("C4124b0c0000c0101b0c0202c0303");
        due("two calls on both sides", 20, () -> u.weakest());
        u.hang(0);
        u.setPatience(0);
        due("fewer on one side", 11, () -> u.weakest());
    }

    static void runScript() {
        promise = "promise 22";
        SwitchRows x = loaded("C3233c0000c0202");
        String before = view(x);
        due("connect", NONE, () -> x.runScript(1, 10101L));
        due("connect, blocked by a taken input", 0, () -> x.runScript(1, 10001L));
        due("connect, no such output", 0, () -> x.runScript(1, 10106L));
        due("connect, no such input", 0, () -> x.runScript(1, 19901L));
        due("join", NONE, () -> x.runScript(1, 20101L));
        due("join, no such call", 0, () -> x.runScript(1, 20201L));
        due("hang", NONE, () -> x.runScript(1, 30100L));
        due("hang, no such call", 0, () -> x.runScript(1, 30200L));
        due("hang, not a 0", 0, () -> x.runScript(1, 30101L));
        due("hang, not a 0 before", 0, () -> x.runScript(1, 30110L));
        due("drop, the only output", 0, () -> x.runScript(1, 40000L));
        due("drop behind a join", NONE, () -> x.runScript(2, 2000140000L));
        due("drop, not a 0", 1, () -> x.runScript(2, 2000140100L));
        due("drop, not a 0 before", 1, () -> x.runScript(2, 2000141000L));
        due("drop, no such output", 0, () -> x.runScript(1, 40006L));
        due("break", NONE, () -> x.runScript(1, 51100L));
        due("break, a call goes by it", 0, () -> x.runScript(1, 50100L));
        due("mend", NONE, () -> x.runScript(1, 50000L));
        due("break, no such board", 0, () -> x.runScript(1, 53100L));
        due("break, neither 0 nor 1", 0, () -> x.runScript(1, 51200L));
        due("break, not a 0", 0, () -> x.runScript(1, 51110L));
        due("break, not a 0 behind", 0, () -> x.runScript(1, 51101L));
        due("patience", NONE, () -> x.runScript(1, 60003L));
        due("patience out of range", 0, () -> x.runScript(1, 60004L));
        due("patience, not a 0", 0, () -> x.runScript(1, 60010L));
        due("patience, not a 0 before", 0, () -> x.runScript(1, 61000L));
        due("goes by", NONE, () -> x.runScript(1, 70100L));
        due("does not go by", 0, () -> x.runScript(1, 70101L));
        due("goes by, not a 0", 0, () -> x.runScript(1, 70110L));
        due("goes by, no such call", 0, () -> x.runScript(1, 70200L));
        due("goes by, no such board", 0, () -> x.runScript(1, 70103L));
        due("links, as many", NONE, () -> x.runScript(1, 80004L));
        due("links, more", NONE, () -> x.runScript(1, 80099L));
        due("links, fewer", 0, () -> x.runScript(1, 80003L));
        due("links, not a 0", 0, () -> x.runScript(1, 80104L));
        due("calls, as many", NONE, () -> x.runScript(1, 90002L));
        due("calls, fewer", NONE, () -> x.runScript(1, 90000L));
        due("calls, more", 0, () -> x.runScript(1, 90003L));
        due("calls, not a 0", 0, () -> x.runScript(1, 91002L));
        due("no command", 0, () -> x.runScript(1, 0L));
        due("no command 0", 0, () -> x.runScript(1, 9999L));
        due("zeros before it", 0, () -> x.runScript(2, 10101L));
        due("zeros before the second of three", 0, () -> x.runScript(3, 1010190003L));
        due("the highest group is first", NONE, () -> x.runScript(2, 1010190003L));
        due("and the lowest one last", 0, () -> x.runScript(2, 9000310101L));
        due("the third fails", 2, () -> x.runScript(3, 300003000030000L));
        due("all three", NONE, () -> x.runScript(3, 300003000090000L));
        due("the first failure counts", 1, () -> x.runScript(3, 300009000300000L));
        due("n is 0", ARGUMENT, () -> x.runScript(0, 0L));
        due("n is 4", ARGUMENT, () -> x.runScript(4, 0L));
        due("negative", ARGUMENT, () -> x.runScript(1, -1L));
        due("least", ARGUMENT, () -> x.runScript(3, Long.MIN_VALUE));
        due("six digits", ARGUMENT, () -> x.runScript(1, 100000L));
        due("five digits", 0, () -> x.runScript(1, 99999L));
        due("eleven digits", ARGUMENT, () -> x.runScript(2, 10000000000L));
        due("sixteen digits", ARGUMENT, () -> x.runScript(3, 1000000000000000L));
        due("fifteen digits", 0, () -> x.runScript(3, 999999999999999L));
        dueView("the state behind the scripts", before, x);
        due("scripts are no actions", STATE, () -> x.undo());
        SwitchRows y = loaded(TWO_APART);
        due("a move in it", NONE, () -> y.runScript(2, 1010370000L));
        due("patience in it", 1, () -> y.runScript(2, 6000010103L));
    }

    static void simulate() {
        promise = "promise 23";
        SwitchRows x = loaded(TWO_APART);
        String before = view(x);
        int moved = 0;
        for (long seed = 0; seed < 200; seed++) {
            long s = seed * 0x9E3779B97F4A7C15L;
            int m = 1 + (int) (seed % 60);
            SwitchRows twin = loaded(TWO_APART);
            long want = turnsByHand(twin, s, m);
            due("simulate(" + s + ", " + m + ")", want, () -> x.simulate(s, m));
            moved += want >= 1000 ? 1 : 0;
        }
        if (moved == 0) {
            wrong++;
            System.out.println("promise 23: no call ever moved in these simulations");
        }
        SwitchRows full = loaded("C4444");
        due("from 16 inputs", turnsByHand(loaded("C4444"), 5L, 60), () -> full.simulate(5L, 60));
        SwitchRows broken = loaded("C1111b0");
        due("without a call to choose", 0, () -> broken.simulate(-1L, 60));
        due("no turn", ARGUMENT, () -> x.simulate(1L, 0));
        due("61 turns", ARGUMENT, () -> x.simulate(1L, 61));
        due("-1 turns", ARGUMENT, () -> x.simulate(1L, -1));
        dueView("the state behind the simulations", before, x);
        due("simulations are no actions", STATE, () -> x.undo());
    }

    static void save() {
        promise = "promise 24";
        SwitchRows x = loaded(TWO_APART);
        due("two calls", 2, () -> x.save(1));
        due("it is no action", STATE, () -> x.undo());
        due("the other slot is empty", STATE, () -> x.restore(0));
        due("no slot 2", INDEX, () -> x.save(2));
        due("no slot -1", INDEX, () -> x.save(-1));
        x.hang(0);
        due("one call", 1, () -> x.save(0));
        due("saved over it", 1, () -> x.save(1));
        due("the remembered state stays", 0, () -> x.undo());
        due("the later one is there", 1, () -> x.restore(1));
    }

    static void restore() {
        promise = "promise 25";
        SwitchRows x = loaded(TWO_APART);
        x.connect(1, 3);
        String saved = view(x);
        x.save(0);
        x.hang(0);
        x.setPatience(0);
        x.setBroken(1, false);
        due("back again", 3, () -> x.restore(0));
        dueView("the saved state", saved, x);
        due("no state is remembered", STATE, () -> x.undo());
        x.hang(0);
        x.hang(0);
        due("the slot keeps it", 3, () -> x.restore(0));
        dueView("the saved state again", saved, x);
        due("slot 1 is empty", STATE, () -> x.restore(1));
        due("no slot 2", INDEX, () -> x.restore(2));
        due("no slot -1", INDEX, () -> x.restore(-1));
        x.setPatience(1);
        due("a restore that throws forgets nothing", STATE, () -> x.restore(1));
        due("so that there is something to undo", 0, () -> x.undo());
        x.load();
        due("a load empties the slots", STATE, () -> x.restore(0));
    }
}
