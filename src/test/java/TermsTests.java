import java.util.ArrayList;
import java.util.List;

/** A test for each sentence of the document's "Terms" that names a boundary. */
public final class TermsTests extends Checks {
    static final char FIRST_SIGN = 0;
    static final char LAST_SIGN = 255;

    public static void main(String[] args) {
        oneToFourBoards();
        rowsFromZero();
        threeBoardsAtFirst();
        width();
        placesBoardByBoard();
        oneLinkBetweenBoards();
        brokenOrNot();
        oneToFourOutputs();
        oneCallAtAPlace();
        linksOfACall();
        noLinkHasTwoCalls();
        noCallByABrokenBoard();
        callsAreNumbered();
        patience();
        fewestMove();
        lowerBoardsAmongEquals();
        noPlan();
        morePatienceNeeded();
        ownMoveNeedsPatience();
        thanks();
        noThanksForItself();
        textIsAtMost120();
        lettersOfAnExchange();
        digitsOfAnExchange();
        numbersOfCommands();
        leftOut();
        noBlanks();
        errorPosition();
        textEndsTooSoon();
        alsoWithoutADifference();
        undoIsNone();
        fifteenthState();
        ringOfStates();
        textAndSlotsStay();
        loadAndRestoreAreNone();
        noSuchPlace();
        otherArguments();
        firstExceptionNamed();
        end();
    }

    static String two(int n) {
        return "" + n / 10 + n % 10;
    }

    static void dueError(String text, int want) {
        SwitchRows x = written(text);
        due("errorPosition of \"" + text + "\"", want, () -> x.errorPosition());
    }

    static void dueBoards(String what, String want, SwitchRows x) {
        dueText(what + ", the boards of the calls", want, boards(x));
    }

    // ---- the boards

    static void oneToFourBoards() {
        sentence("There are 1 to 4 boards in the first row, 1 to 4 middle ones and 1 to 4 in the last row");
        int[] places = {1, 3, 4};
        int[] abouts = {0, 2, 3};
        for (int i = 0; i < 3; i++) {
            int about = abouts[i];
            for (int n = 0; n <= 5; n++) {
                StringBuilder text = new StringBuilder("C2222");
                text.setCharAt(places[i], (char) ('0' + n));
                boolean allowed = n >= 1 && n <= 4;
                dueError(text.toString(), allowed ? NONE : places[i]);
                if (allowed) {
                    SwitchRows x = loaded(text.toString());
                    due("about(" + about + ") of " + text, n, () -> x.about(about));
                }
            }
        }
    }

    static void rowsFromZero() {
        sentence("each row numbered from 0");
        for (int n = 1; n <= 4; n++) {
            int count = n;
            SwitchRows first = loaded("C" + n + "111");
            due("the first of " + n + " first boards", NONE, () -> first.link(false, 0, 0));
            due("the last of " + n + " first boards", NONE, () -> first.link(false, 0, count - 1));
            due("the one behind " + n + " first boards", INDEX, () -> first.link(false, 0, count));
            due("first board -1", INDEX, () -> first.link(false, 0, -1));
            SwitchRows last = loaded("C111" + n);
            due("the first of " + n + " last boards", NONE, () -> last.link(true, 0, 0));
            due("the last of " + n + " last boards", NONE, () -> last.link(true, 0, count - 1));
            due("the one behind " + n + " last boards", INDEX, () -> last.link(true, 0, count));
            due("last board -1", INDEX, () -> last.link(true, 0, -1));
            for (boolean side : new boolean[] {false, true}) {
                SwitchRows middle = loaded("C11" + n + "1");
                due("the first of " + n + " middle boards", NONE, () -> middle.link(side, 0, 0));
                due("the last of " + n + " middle boards", NONE, () -> middle.link(side, count - 1, 0));
                due("the one behind " + n + " middle boards", INDEX, () -> middle.link(side, count, 0));
                due("middle board -1", INDEX, () -> middle.link(side, -1, 0));
                due("the last of " + n + " to break", count - 1, () -> middle.setBroken(count - 1, true));
                due("the one behind " + n + " to break", INDEX, () -> middle.setBroken(count, side));
                due("middle board -1 to break", INDEX, () -> middle.setBroken(-1, side));
            }
        }
    }

    static void threeBoardsAtFirst() {
        sentence("at first 3 in each row");
        SwitchRows x = new SwitchRows();
        due("first boards", 3, () -> x.about(0));
        due("middle boards", 3, () -> x.about(2));
        due("last boards", 3, () -> x.about(3));
        due("first board 2 and middle board 2", NONE, () -> x.link(false, 2, 2));
        due("last board 2 and middle board 2", NONE, () -> x.link(true, 2, 2));
        due("first board 3", INDEX, () -> x.link(false, 2, 3));
        due("last board 3", INDEX, () -> x.link(true, 2, 3));
        due("middle board 3", INDEX, () -> x.link(false, 3, 2));
    }

    static void width() {
        sentence("the width: 1 to 4, at first 2");
        due("at first", 2, () -> new SwitchRows().about(1));
        due("input 5 at first", NONE, () -> new SwitchRows().at(false, 5));
        due("input 6 at first", INDEX, () -> new SwitchRows().at(false, 6));
        due("output 5 at first", NONE, () -> new SwitchRows().at(true, 5));
        due("output 6 at first", INDEX, () -> new SwitchRows().at(true, 6));
        dueError("C2022", 2);
        dueError("C2522", 2);
        for (int n = 1; n <= 4; n++) {
            int wide = n;
            SwitchRows x = loaded("C1" + n + "12");
            due("the width " + n, n, () -> x.about(1));
            due("the last input", NONE, () -> x.at(false, wide - 1));
            due("the input behind it", INDEX, () -> x.at(false, wide));
            due("the last output", NONE, () -> x.at(true, 2 * wide - 1));
            due("the output behind it", INDEX, () -> x.at(true, 2 * wide));
        }
    }

    static void placesBoardByBoard() {
        sentence("The inputs, and the outputs, are numbered from 0, board by board.");
        for (int wide = 1; wide <= 4; wide++) {
            for (int board = 0; board < 4; board++) {
                for (int i = 0; i < wide; i++) {
                    int place = board * wide + i;
                    int here = board;
                    SwitchRows x = loaded("C4" + wide + "14");
                    String what = "width " + wide + ", place " + place;
                    due(what, 0, () -> x.connect(place, 4 * x.about(1) - 1 - place));
                    due(what + ", the first board", 0, () -> x.link(false, 0, here));
                    due(what + ", the last board", 0, () -> x.link(true, 0, 3 - here));
                    due(what + ", its input", 0, () -> x.at(false, place));
                    due(what + ", two links", 2, () -> x.about(7));
                }
            }
        }
    }

    static void oneLinkBetweenBoards() {
        sentence("There is one link from each board of the first row to each middle one, and one link from each middle one"
            + " to each board of the last row.");
        for (int middle = 1; middle <= 4; middle++) {
            SwitchRows from = loaded("C14" + middle + "4");
            SwitchRows to = loaded("C44" + middle + "1");
            for (int i = 0; i < 4; i++) {
                int n = i;
                long want = i < middle ? 0 : STATE;
                due("call " + n + " from the first board by " + middle, want, () -> from.connect(n, 4 * n));
                due("call " + n + " to the last board by " + middle, want, () -> to.connect(4 * n, n));
                if (i < middle) {
                    due("the link that it has from there", n, () -> from.link(false, n, 0));
                    due("the link that it has to there", n, () -> to.link(true, n, 0));
                }
            }
        }
    }

    static void brokenOrNot() {
        sentence("A middle board is broken or not, at first not.");
        due("none is", 0, () -> new SwitchRows().about(8));
        due("all are whole", 3, () -> new SwitchRows().setBroken(0, false));
        SwitchRows x = loaded("C1141b0b1b2b3");
        due("all are", 15, () -> x.about(8));
        due("the last one is mended", 1, () -> x.setBroken(3, false));
        due("three are", 7, () -> x.about(8));
        write(x, "C1141");
        x.load();
        due("none is behind a load", 0, () -> x.about(8));
    }

    // ---- calls

    static void oneToFourOutputs() {
        sentence("A call is from one input to 1 to 4 outputs");
        SwitchRows x = loaded("C1423");
        x.connect(3, 7);
        int[] more = {0, 6, 4};
        for (int i = 0; i < 3; i++) {
            int y = more[i];
            due("output " + (i + 2), 0, () -> x.join(0, y));
        }
        due("a fifth output", STATE, () -> x.join(0, 5));
        due("a fifth output elsewhere", STATE, () -> x.join(0, 11));
        due("four bits", (1 << 7) + 1 + (1 << 6) + (1 << 4), () -> x.call(0, 1));
        due("four of four are taken", 3, () -> x.drop(0));
        due("then there is room", 0, () -> x.join(0, 11));
        due("three are left", 3, () -> x.drop(7));
        due("two are left", 2, () -> x.drop(6));
        due("one is left", 1, () -> x.drop(4));
        due("none would be left", STATE, () -> x.drop(11));
        due("one bit", 1 << 11, () -> x.call(0, 1));
    }

    static void oneCallAtAPlace() {
        sentence("an input has at most one call, an output likewise");
        SwitchRows x = new SwitchRows();
        x.connect(2, 4);
        x.join(0, 1);
        due("another call from the input", STATE, () -> x.connect(2, 0));
        due("another call to the output", STATE, () -> x.connect(0, 4));
        due("another call to the other output", STATE, () -> x.connect(0, 1));
        due("the same call again", STATE, () -> x.connect(2, 4));
        x.connect(5, 2);
        due("an output of the other call", STATE, () -> x.join(1, 4));
        due("another output of the other call", STATE, () -> x.join(1, 1));
        due("an output of its own", STATE, () -> x.join(1, 2));
        due("two calls", 2, () -> x.about(4));
        x.hang(0);
        due("the places are free then", 0, () -> x.connect(2, 4));
        due("and the other output", 0, () -> x.connect(0, 1));
    }

    static void linksOfACall() {
        sentence("it has the link from the board of its input to that, and one link from there to each board of the last row"
            + " at which it has outputs");
        SwitchRows x = loaded("C1444c0004j0005j0006j0007");
        due("four outputs at one board", 2, () -> x.call(0, 4));
        due("two links are taken", 2, () -> x.about(7));
        due("to that board", 0, () -> x.link(true, 0, 1));
        due("not to the one before", NONE, () -> x.link(true, 0, 0));
        due("not to the one behind", NONE, () -> x.link(true, 0, 2));
        due("not by another middle board", NONE, () -> x.link(true, 1, 1));
        SwitchRows y = loaded("C1414c0000j0005j0010j0015");
        due("four outputs at four boards", 5, () -> y.call(0, 4));
        due("five links are taken", 5, () -> y.about(7));
        for (int board = 0; board < 4; board++) {
            int b = board;
            due("to board " + board, 0, () -> y.link(true, 0, b));
        }
        y.drop(5);
        due("not to a board that it left", NONE, () -> y.link(true, 0, 1));
        due("four links are left", 4, () -> y.about(7));
        due("all links of the full network", 32, () -> full().about(7));
        due("its last link to the last row", 15, () -> full().link(true, 3, 3));
        due("its last link from the first row", 15, () -> full().link(false, 3, 3));
    }

    static void noLinkHasTwoCalls() {
        sentence("No link has two calls");
        SwitchRows x = loaded("C2212c0000");
        due("the link from the first board is taken", STATE, () -> x.connect(1, 2));
        due("the link to the last board is taken", STATE, () -> x.connect(2, 1));
        due("both others are free", 0, () -> x.connect(2, 2));
        due("another output at a board of another call", STATE, () -> x.join(0, 3));
        due("another output at its own board", 0, () -> x.join(0, 1));
        due("the links stay", 4, () -> x.about(7));
        SwitchRows y = loaded("C2222c0000");
        due("from the same board", 0, () -> y.connect(1, 2));
        dueBoards("from the same board", "01", y);
        due("to both boards", 0, () -> y.connect(2, 3));
        dueBoards("to both boards", "010", y);
    }

    static void noCallByABrokenBoard() {
        sentence("no call goes by a broken board");
        for (int whole = 0; whole < 4; whole++) {
            SwitchRows x = loaded("C1141b0b1b2b3");
            int m = whole;
            due("all are broken", STATE, () -> x.connect(0, 0));
            due("all are broken, moves", NONE, () -> x.moves(0, 0));
            due("all are broken, open", 0, () -> x.open(3));
            x.setBroken(m, false);
            due("one is whole", 0, () -> x.connect(0, 0));
            due("it goes by that", m, () -> x.call(0, 2));
            due("so that this can't be broken", STATE, () -> x.setBroken(m, true));
        }
        SwitchRows y = loaded("C2232b0c0202b0c0000b2");
        due("a call moves, as the free board is broken", 1, () -> y.connect(1, 3));
        dueBoards("not by the broken one", "001", y);
        SwitchRows z = loaded("C2232b0c0202b0c0000b2");
        z.setBroken(2, false);
        due("none moves, as it is mended", 0, () -> z.connect(1, 3));
        dueBoards("by the mended one", "102", z);
        SwitchRows w = loaded("C3133c0000c0101b1b2");
        due("another output that would need a broken board", STATE, () -> w.join(0, 1));
        due("another output whose only other board is broken", STATE, () -> loaded("C2122c0000c0101b1").join(0, 1));
    }

    static void callsAreNumbered() {
        sentence("Calls are numbered from 0 in the order in which they were made; if one ends, those behind it get numbers"
            + " that are smaller by 1.");
        for (int ended = 0; ended < 16; ended++) {
            SwitchRows x = full();
            int c = ended;
            due("call " + c + " ends", 15, () -> x.hang(c));
            StringBuilder inputs = new StringBuilder();
            StringBuilder want = new StringBuilder();
            for (int i = 0; i < 15; i++) {
                int expected = i < c ? i : i + 1;
                want.append(expected).append(' ').append(1 << expected).append(' ').append(expected % 4).append(',');
                inputs.append(x.call(i, 0)).append(' ').append(x.call(i, 1)).append(' ').append(x.call(i, 2)).append(',');
            }
            dueText("the calls without " + c, want.toString(), inputs.toString());
            due("there is no call 15 then", INDEX, () -> x.call(15, 0));
            due("its input is free", NONE, () -> x.at(false, c));
            due("made again, it moves none", 0, () -> x.connect(c, c));
            due("it is the last one", c, () -> x.call(15, 0));
        }
        SwitchRows moved = loaded(TWO_APART + "c0103");
        due("the first call moved", 1, () -> moved.call(0, 3));
        moved.hang(1);
        due("it still did, when the one behind it ended", 1, () -> moved.call(0, 3));
        due("the last one, call 1 then, did not", 0, () -> moved.call(1, 3));
        SwitchRows second = loaded("C2222c0202c0000j0103");
        due("the second call moved", 1, () -> second.call(1, 3));
        second.hang(0);
        due("it is call 0 then, and it did", 1, () -> second.call(0, 3));
        SwitchRows x = loaded("C2222c0303c0000");
        due("the lower input was made later", 1, () -> x.at(false, 0));
        due("the higher one before", 0, () -> x.at(false, 3));
    }

    static void patience() {
        sentence("The patience is from 0 to 3, at first 2.");
        due("at first", 2, () -> new SwitchRows().about(5));
        due("behind a load", 2, () -> loaded("C1111").about(5));
        for (int p = 0; p <= 3; p++) {
            int patience = p;
            SwitchRows x = new SwitchRows();
            due("it is set", 2, () -> x.setPatience(patience));
            due("it was set", patience, () -> x.about(5));
            due("by a text", patience, () -> loaded("C1111p" + patience).about(5));
        }
        due("-1", ARGUMENT, () -> new SwitchRows().setPatience(-1));
        due("4", ARGUMENT, () -> new SwitchRows().setPatience(4));
        dueError("C1111p4", 6);
    }

    // ---- moving over

    /** Makes a call, and looks at its answer and at the boards of all calls behind it. */
    static void dueConnect(String text, int x, int y, int moving, String boards) {
        SwitchRows rows = loaded(text);
        String what = text + ", connect(" + x + ", " + y + ")";
        due(what + ", asked before", moving, () -> rows.moves(x, y));
        due(what, moving, () -> rows.connect(x, y));
        dueBoards(what, boards, rows);
    }

    static void dueJoin(String text, int c, int y, int moving, String boards) {
        SwitchRows rows = loaded(text);
        String what = text + ", join(" + c + ", " + y + ")";
        due(what, moving, () -> rows.join(c, y));
        dueBoards(what, boards, rows);
    }

    static void fewestMove() {
        sentence("of all plans for the calls as they are then, the one by which the fewest calls that were there before go"
            + " by another middle board than before");
        // Each of these has a plan with lower boards by which more calls move: 011, 0102, 001122, 0112, 012121.
        dueConnect("C3322b0c0004b0", 6, 5, 0, "10");
        dueConnect("C3422b0c0203b0c0402c1106", 0, 5, 1, "1010");
        dueConnect("C2433b0b1c0403j0007b1c0311c0604b0c0000", 2, 5, 2, "11002");
        dueJoin("C3422b0c0905b0", 0, 2, 0, "1");
        dueJoin("C4232b0b1c0502c0700b1b0", 0, 1, 1, "02");
        dueJoin("C3434b0b1c0911c0302b1c0108c1115b0c0803c0410p3", 0, 1, 3, "201010");
    }

    static void lowerBoardsAmongEquals() {
        sentence("of several the one whose first call has the lower middle board, then the second one, and so on (a new call"
            + " is the last one)");
        // The other plans with as few moves: 110, 1110, 11110, 21020, and for the new call 1 or 2.
        dueConnect("C3322b0c0305b0c0002", 1, 3, 1, "001");
        dueConnect("C4423b0c0304c1111b0c0401", 8, 0, 1, "1001");
        dueConnect("C4224b0c0202c0404c0601b0c0006", 1, 0, 1, "11001");
        dueConnect("C2433b0b1c0204b1c0105b0c0310c0703", 5, 7, 1, "21010");
        dueConnect("C2324", 2, 4, 0, "0");
        dueConnect("C1333c0000", 1, 3, 0, "01");
        dueConnect("C4424b0c0202c1312c1107b0c0701c0009c0813p3", 5, 4, 3, "0111100");
        // The other ones: 10, 02, 0021, 20021, and where the call itself moves 10, 02, 202, 10021.
        dueJoin("C3423b0b0c0405c0000", 0, 3, 1, "01");
        dueJoin("C4433b0b1b1b0c0309c0606", 0, 4, 1, "01");
        dueJoin("C4233c0200c0002c0605", 0, 4, 1, "001");
        dueJoin("C4434b0b1c0413b1b0c0714c0208c1204", 2, 5, 1, "2001");
        dueJoin("C3223b0b0c0302c0000", 1, 3, 1, "01");
        dueJoin("C4433b0b1b1b0c0309c0606", 1, 8, 1, "01");
        dueJoin("C3334b0b1c0705b1b0c0606c0400", 2, 7, 1, "201");
        dueJoin("C3433b0b1b1c0600b0c0401c0004c0810", 3, 7, 1, "1001");
    }

    static void noPlan() {
        sentence("If there is no plan ... it is blocked.");
        for (int patience = 0; patience <= 3; patience++) {
            String p = "p" + patience;
            due("no room from the first board" + p, STATE, () -> loaded("C1311c0000" + p).connect(1, 1));
            due("no room to the last board" + p, STATE, () -> loaded("C3111c0000b0" + p).connect(1, 0));
            due("no whole board" + p, STATE, () -> loaded("C1111b0" + p).connect(0, 0));
            due("another output" + p, STATE, () -> loaded("C4323b0c1103c0807" + p).join(0, 6));
        }
        Maker rows = () -> loaded("C4323b0c1103c0807p3");
        dueAndNothingElse("a blocked join", STATE, rows, x -> x.join(0, 6));
        Maker one = () -> loaded("C1211c0000p3");
        dueAndNothingElse("a blocked connect", STATE, one, x -> x.connect(1, 1));
    }

    /** The call needs so many moves: with that patience it is made, with less it is blocked. */
    static void dueWithPatience(String text, int moves, Call call) {
        for (int patience = 0; patience <= 3; patience++) {
            String with = text + "p" + patience;
            if (patience < moves) {
                dueAndNothingElse(with + ", too many moves", STATE, () -> loaded(with), call);
            } else {
                SwitchRows x = loaded(with);
                due(with, moves, () -> call.on(x));
                due(with + ", the moves then", moves, () -> x.about(6));
            }
        }
    }

    static void morePatienceNeeded() {
        sentence("if more calls would have to move than the patience, it is blocked");
        dueWithPatience("C4224", 0, x -> x.connect(0, 0));
        dueWithPatience("C4223c0602c0103c0404", 1, x -> x.connect(0, 5));
        dueWithPatience("C3323b0c0700c0103b0c0007c0301", 2, x -> x.connect(4, 5));
        dueWithPatience("C4424b0c0202c1312c1107b0c0701c0009c0813", 3, x -> x.connect(5, 4));
        // Plans with four moves stand behind these; no patience is enough.
        dueWithPatience("C3433b0b1c0107c0700c0811b1c0203j0304c0609b0c0308c1002", 4, x -> x.connect(9, 5));
        dueWithPatience("C3433b0b1c0106c0903c0410b1c0300c0707b0c1002c0008", 4, x -> x.join(5, 9));
        dueWithPatience("C3333c0000", 0, x -> x.join(0, 3));
        dueWithPatience("C3233c0400c0304", 1, x -> x.join(0, 5));
        dueWithPatience("C2224b0c0106c0301b0c0200c0002", 2, x -> x.join(1, 7));
        dueWithPatience("C4324b0c0506c1004c0210c0801b0c0605c0311", 3, x -> x.join(3, 7));
    }

    static void ownMoveNeedsPatience() {
        sentence("the fewest calls that were there before (a call that gets another output was there before)");
        dueWithPatience("C2232c0301c0003", 1, x -> x.join(1, 0));
        dueWithPatience("C2324b0c0406c0005b0c0201c0309", 2, x -> x.join(3, 0));
        dueWithPatience("C4324b0c0506c1004c0210c0801b0c0605c0311", 3, x -> x.join(2, 0));
        dueWithPatience("C3433b0b1c1004c0400c0311b1c0901c0005c0708b0c0507", 4, x -> x.join(0, 2));
    }

    /** Compares the moves and the thanks with the boards before and behind a call that counted from nothing. */
    static void dueThanks(String text, int asking, Call call) {
        SwitchRows x = loaded(text + "p3");
        String before = boards(x);
        long moving = call.on(x);
        String then = boards(x);
        int[] got = new int[16];
        int[] owed = new int[16];
        int count = 0;
        for (int c = 0; c < before.length(); c++) {
            int moved = before.charAt(c) == then.charAt(c) ? 0 : 1;
            int number = c;
            count += moved;
            due(text + ", moves of call " + c, moved, () -> x.call(number, 3));
            if (c != asking && moved == 1) {
                got[x.call(c, 0)]++;
                owed[x.call(asking, 0)]++;
            }
        }
        due(text + ", the answer", count, () -> moving);
        due(text + ", moves in all", count, () -> x.about(6));
        for (int i = 0; i < x.about(0) * x.about(1); i++) {
            int input = i;
            due(text + ", got by input " + i, got[i], () -> x.thanks(input, false));
            due(text + ", owed by input " + i, owed[i], () -> x.thanks(input, true));
        }
    }

    static void thanks() {
        sentence("for each of them ... its input gets a thank, and the input of the call that is made or gets an output owes"
            + " one for each of them");
        dueThanks("C4224", 0, x -> x.connect(0, 0));
        dueThanks("C4223c0602c0103c0404", 3, x -> x.connect(0, 5));
        dueThanks("C3323b0c0700c0103b0c0007c0301", 4, x -> x.connect(4, 5));
        dueThanks("C4424b0c0202c1312c1107b0c0701c0009c0813", 6, x -> x.connect(5, 4));
        dueThanks("C3233c0400c0304", 0, x -> x.join(0, 5));
        dueThanks("C2224b0c0106c0301b0c0200c0002", 1, x -> x.join(1, 7));
        dueThanks("C4324b0c0506c1004c0210c0801b0c0605c0311", 3, x -> x.join(3, 7));
        SwitchRows x = loaded("C2322");
        for (int n = 1; n <= 3; n++) {
            int times = n;
            x.setBroken(0, true);
            x.connect(3, 3);
            x.setBroken(0, false);
            x.connect(0, 0);
            due("one moves", 1, () -> x.connect(1, 4));
            due("it got one each time", times, () -> x.thanks(3, false));
            due("one is owed each time", times, () -> x.thanks(1, true));
            due("each move is counted", times, () -> x.about(6));
            for (int c = 2; c >= 0; c--) {
                x.hang(c);
            }
        }
    }

    static void noThanksForItself() {
        sentence("but not for the call itself that gets another output");
        dueThanks("C2232c0301c0003", 1, x -> x.join(1, 0));
        dueThanks("C2324b0c0406c0005b0c0201c0309", 3, x -> x.join(3, 0));
        dueThanks("C4324b0c0506c1004c0210c0801b0c0605c0311", 2, x -> x.join(2, 0));
        SwitchRows alone = loaded("C2232c0301c0003");
        due("it moves alone", 1, () -> alone.join(1, 0));
        due("its input owes none", 0, () -> alone.thanks(0, true));
        due("its input got none", 0, () -> alone.thanks(0, false));
        due("it moved", 1, () -> alone.call(1, 3));
        SwitchRows three = loaded("C4324b0c0506c1004c0210c0801b0c0605c0311p3");
        due("it moves with two others", 3, () -> three.join(2, 0));
        due("its input owes for those two", 2, () -> three.thanks(2, true));
        due("and got none", 0, () -> three.thanks(2, false));
    }

    // ---- text

    static void textIsAtMost120() {
        sentence("The object has a text buffer of at most 120 characters.");
        SwitchRows x = new SwitchRows();
        for (int n = 1; n <= 120; n++) {
            int length = n;
            due("character " + n, length, () -> x.append('p'));
        }
        due("character 121", STATE, () -> x.append('p'));
        due("and again", STATE, () -> x.append('p'));
        due("all are there", 120, () -> x.clearText());
        StringBuilder most = new StringBuilder("C4444");
        while (most.length() < 120) {
            most.append("c0000");
        }
        SwitchRows y = written(most.toString());
        due("an exchange of 120 characters", NONE, () -> y.errorPosition());
        due("23 commands, 22 are left out", 22, () -> y.load());
    }

    static void lettersOfAnExchange() {
        sentence("An exchange is the letter C ... and then any number of commands: c ... j ... h ... b ... p");
        for (char sign = FIRST_SIGN; sign <= LAST_SIGN; sign++) {
            SwitchRows front = new SwitchRows();
            front.append(sign);
            due("sign " + (int) sign + " in front", sign == 'C' ? 1 : 0, () -> front.errorPosition());
            SwitchRows command = written("C2222");
            command.append(sign);
            boolean letter = "cjhbp".indexOf(sign) >= 0;
            due("sign " + (int) sign + " as a command", letter ? 6 : 5, () -> command.errorPosition());
            SwitchRows second = written("C2222p0");
            second.append(sign);
            due("sign " + (int) sign + " as a second command", letter ? 8 : 7, () -> second.errorPosition());
        }
        dueError("C2222", NONE);
        dueError("C2222p0", NONE);
        dueError("C2222p0p1", NONE);
    }

    static void digitsOfAnExchange() {
        sentence("four digits from 1 to 4 for the boards of the first row, the width, the middle boards and those of the last"
            + " row");
        for (int place = 1; place <= 4; place++) {
            for (char sign = FIRST_SIGN; sign <= LAST_SIGN; sign++) {
                SwitchRows x = written("C4321".substring(0, place));
                x.append(sign);
                boolean allowed = sign >= '1' && sign <= '4';
                int want = !allowed ? place : place < 4 ? place + 1 : NONE;
                due("sign " + (int) sign + " at " + place, want, () -> x.errorPosition());
            }
        }
        SwitchRows x = loaded("C4321");
        for (int what = 0; what < 4; what++) {
            int w = what;
            due("about(" + what + ")", 4 - what, () -> x.about(w));
        }
    }

    /** Tries all pairs of signs for a number of two digits that is allowed up to the highest one. */
    static void dueNumber(String before, int highest, String behind) {
        for (char tens = '/'; tens <= ':'; tens++) {
            for (char ones = '/'; ones <= ':'; ones++) {
                boolean first = false;
                boolean both = false;
                for (int n = 0; n <= highest; n++) {
                    first = first || two(n).charAt(0) == tens;
                    both = both || two(n).charAt(0) == tens && two(n).charAt(1) == ones;
                }
                dueError(before + tens + ones + behind, both ? NONE : first ? before.length() + 1 : before.length());
            }
        }
    }

    static void numbersOfCommands() {
        sentence("c and two digits for an input and two for an output (each 00 to the last one) ... j, two digits for a call"
            + " (00 to 15) ... h ... b and a digit for a middle board (one that there is) ... p ... (0 to 3)");
        for (int boards = 1; boards <= 4; boards++) {
            for (int wide = 1; wide <= 4; wide++) {
                dueNumber("C" + boards + wide + "33c", boards * wide - 1, "00");
                dueNumber("C3" + wide + "3" + boards + "c00", boards * wide - 1, "");
                dueNumber("C3" + wide + "3" + boards + "j00", boards * wide - 1, "");
            }
            for (char sign = FIRST_SIGN; sign <= LAST_SIGN; sign++) {
                SwitchRows x = written("C22" + boards + "2b");
                x.append(sign);
                boolean there = sign >= '0' && sign < '0' + boards;
                due("board " + (int) sign + " of " + boards, there ? NONE : 6, () -> x.errorPosition());
            }
        }
        dueNumber("C1111j", 15, "00");
        dueNumber("C4444j", 15, "00");
        dueNumber("C1111h", 15, "");
        dueNumber("C4444h", 15, "");
        for (char sign = FIRST_SIGN; sign <= LAST_SIGN; sign++) {
            SwitchRows x = written("C1111p");
            x.append(sign);
            due("patience " + (int) sign, sign >= '0' && sign <= '3' ? NONE : 6, () -> x.errorPosition());
        }
    }

    static void dueLeftOut(String text, int want, String boards) {
        SwitchRows x = written(text);
        due("left out of " + text, want, () -> x.load());
        dueBoards("behind " + text, boards, x);
    }

    static void leftOut() {
        sentence("Commands that would throw an exception are left out");
        dueLeftOut("C2222", 0, "");
        dueLeftOut("C2222c0000", 0, "0");
        dueLeftOut("C2222c0000c0001", 1, "0");
        dueLeftOut("C2222c0000c0100", 1, "0");
        dueLeftOut("C2212c0000c0102", 1, "0");
        dueLeftOut("C2222b0c0202b0c0000p0c0103", 1, "10");
        dueLeftOut("C2222b0c0202b0c0000p1c0103", 0, "001");
        dueLeftOut("C2222j0000", 1, "");
        dueLeftOut("C2222c0000j0100", 1, "0");
        dueLeftOut("C2222c0000j0000", 1, "0");
        dueLeftOut("C2212c0000c0202j0003", 1, "00");
        dueLeftOut("C1414c0000j0001j0002j0003j0004", 1, "0");
        dueLeftOut("C2222h00", 1, "");
        dueLeftOut("C2222c0000h01", 1, "0");
        dueLeftOut("C2222c0000h15h00h00", 2, "");
        dueLeftOut("C2222c0000b0", 1, "0");
        dueLeftOut("C2222c0000b1b1", 0, "0");
        dueLeftOut("C2222c0000b1c0202c0101", 1, "00");
        dueLeftOut("C2222h00h01j0000b0b1c0000", 4, "");
        SwitchRows x = loaded("C1131b0b1b2b1");
        due("broken, if it was not, and not, if it was", 5, () -> x.about(8));
        SwitchRows y = loaded("C2222c0000b0");
        due("not broken, as a call goes by it", 0, () -> y.about(8));
        due("nothing is remembered of what is left out", STATE, () -> y.undo());
    }

    static void noBlanks() {
        sentence("There are no blanks.");
        String text = "C2222c0000j0001h00b0p0";
        dueError(text, NONE);
        for (int at = 0; at <= text.length(); at++) {
            dueError(text.substring(0, at) + ' ' + text.substring(at), at);
            dueError(text.substring(0, at) + '\n' + text.substring(at), at);
            dueError(text.substring(0, at) + (char) 0 + text.substring(at), at);
        }
    }

    static void errorPosition() {
        sentence("The error position is the index of the first character that these rules do not allow at its place");
        dueError("X", 0);
        dueError("XXXXX", 0);
        dueError("C5555", 1);
        dueError("C1555", 2);
        dueError("C1155", 3);
        dueError("C1115", 4);
        dueError("C1111X", 5);
        dueError("C1111p9p9", 6);
        dueError("C1111p0p9", 8);
        dueError("C1111CC", 5);
        StringBuilder text = new StringBuilder("C1111");
        while (text.length() < 119) {
            text.append("p0");
        }
        dueError(text.toString() + 'x', 119);
        text.setCharAt(118, '4');
        dueError(text.toString() + 'x', 118);
        sentence("a digit is not allowed if no number that is allowed begins with it and those before it");
        dueError("C3211c06", 7);
        dueError("C3211c10", 6);
        dueError("C4311c11", 8);
        dueError("C4311c12", 7);
        dueError("C4311c20", 6);
        dueError("C1111j16", 7);
        dueError("C1111j20", 6);
        dueError("C1111c0001", 9);
        dueError("C1111c0010", 8);
    }

    static void textEndsTooSoon() {
        sentence("if the text ends too soon, it is the length of the text");
        String text = "C4444c0000j0115h15b3p3c1515";
        String ends = " 5 10 15 18 20 22 27 ";
        for (int length = 0; length <= text.length(); length++) {
            dueError(text.substring(0, length), ends.contains(" " + length + " ") ? NONE : length);
        }
        StringBuilder most = new StringBuilder("C1111");
        while (most.length() < 119) {
            most.append("b0");
        }
        dueError(most.toString(), NONE);
        dueError(most + "h", 120);
    }

    // ---- actions

    static void alsoWithoutADifference() {
        sentence("Each call of one of them that does not throw an exception is an action, also if nothing becomes different");
        SwitchRows x = loaded("C2222");
        Call[] actions = {y -> y.setPatience(2), y -> y.setBroken(1, false), y -> y.connect(0, 0), y -> y.join(0, 1),
            y -> y.drop(0), y -> y.setBroken(1, true), y -> y.setBroken(1, true), y -> y.setPatience(3), y -> y.hang(0)};
        String[] views = new String[actions.length];
        for (int i = 0; i < actions.length; i++) {
            views[i] = view(x);
            actions[i].on(x);
        }
        for (int i = actions.length - 1; i >= 0; i--) {
            int left = i;
            due("the state before action " + i, left, () -> x.undo());
            dueView("the state before action " + i, views[i], x);
        }
        due("none is left", STATE, () -> x.undo());
    }

    static void undoIsNone() {
        sentence("(undo is none)");
        SwitchRows x = new SwitchRows();
        x.setPatience(0);
        x.setPatience(1);
        due("one is left", 1, () -> x.undo());
        due("the patience before", 0, () -> x.about(5));
        due("none is left", 0, () -> x.undo());
        due("the patience at first", 2, () -> x.about(5));
        due("the undo is not undone", STATE, () -> x.undo());
        due("the patience stays", 2, () -> x.about(5));
        x.setPatience(3);
        due("an action behind it is", 0, () -> x.undo());
    }

    /** Does as many actions as told, the action i setting the patience i % 4, and takes all of them back. */
    static void dueRemembered(int actions) {
        SwitchRows x = loaded("C2222c0000");
        for (int i = 1; i <= actions; i++) {
            x.setPatience(i % 4);
        }
        int remembered = Math.min(actions, REMEMBERED);
        for (int undone = 1; undone <= remembered; undone++) {
            int left = remembered - undone;
            int before = actions - undone;
            due(actions + " actions, " + undone + " undone", left, () -> x.undo());
            due("the patience then", before == 0 ? 2 : before % 4, () -> x.about(5));
        }
        due(actions + " actions, none is left", STATE, () -> x.undo());
    }

    static void fifteenthState() {
        sentence("At most 14 states are remembered; when one more is remembered, the oldest one is forgotten.");
        for (int actions = 0; actions <= 48; actions++) {
            dueRemembered(actions);
        }
        SwitchRows x = new SwitchRows();
        for (int i = 0; i < REMEMBERED; i++) {
            x.setPatience(3);
        }
        due("an action that throws forgets none", ARGUMENT, () -> x.setPatience(4));
        due("nor does this one", INDEX, () -> x.hang(0));
        due("nor this one", STATE, () -> x.drop(0));
        for (int left = REMEMBERED - 1; left >= 0; left--) {
            int states = left;
            due("it is still remembered", states, () -> x.undo());
        }
        due("the patience at first", 2, () -> x.about(5));
    }

    static void ringOfStates() {
        sentence("Before each action, the state is remembered.");
        SwitchRows x = loaded("C2222c0000");
        List<Integer> before = new ArrayList<>();
        // More and more actions, fewer of them taken back: the places of the states are used again and again.
        for (int round = 0; round < 6; round++) {
            for (int i = 0; i < 10 + round; i++) {
                before.add(x.about(5));
                if (before.size() > REMEMBERED) {
                    before.remove(0);
                }
                x.setPatience((7 * round + 3 * i) % 4);
            }
            int back = round == 5 ? before.size() : 3 + round;
            for (int i = 0; i < back; i++) {
                int want = before.remove(before.size() - 1);
                due("round " + round, before.size(), () -> x.undo());
                due("round " + round + ", the patience", want, () -> x.about(5));
            }
        }
        due("none is left", STATE, () -> x.undo());
    }

    static void textAndSlotsStay() {
        sentence("the state, which consists of everything but the text and the save slots");
        SwitchRows x = written("C11");
        x.connect(0, 0);
        x.append('1');
        x.append('1');
        x.save(0);
        x.setPatience(3);
        x.save(1);
        x.undo();
        x.undo();
        due("the text stays", 5, () -> x.clearText());
        due("the call is taken back", 0, () -> x.about(4));
        due("slot 1 stays", 1, () -> x.restore(1));
        due("with its patience", 3, () -> x.about(5));
        due("slot 0 stays", 1, () -> x.restore(0));
        due("with its own", 2, () -> x.about(5));
        SwitchRows y = loaded(TWO_APART);
        String before = view(y);
        due("one moves", 1, () -> y.connect(1, 3));
        due("it moved once", 1, () -> y.call(0, 3));
        String then = view(y);
        y.join(1, 1);
        y.hang(0);
        y.undo();
        y.undo();
        dueView("what stands behind the first action", then, y);
        y.undo();
        due("it did not move", 0, () -> y.call(0, 3));
        dueView("calls, boards, moves and thanks are taken back", before, y);
    }

    static void loadAndRestoreAreNone() {
        sentence("load and restore are not actions.");
        SwitchRows x = written("C1111");
        x.setPatience(0);
        x.save(0);
        x.load();
        due("load is not remembered", STATE, () -> x.undo());
        x.save(1);
        x.restore(1);
        due("restore is not remembered", STATE, () -> x.undo());
        x.setPatience(1);
        due("what is done behind them is", 0, () -> x.undo());
        due("once", STATE, () -> x.undo());
    }

    // ---- exceptions

    /** Are outside of every range. */
    static final int[] OUTSIDE = {-1, -16, Integer.MIN_VALUE, Integer.MIN_VALUE + 1, Integer.MAX_VALUE,
        Integer.MAX_VALUE - 1, 256, 1 << 16};

    static void noSuchPlace() {
        sentence("IndexOutOfBoundsException means that an input, an output, a board or a call does not exist, or that a save"
            + " slot is not 0 or 1.");
        for (int n : OUTSIDE) {
            SwitchRows x = full();
            x.hang(15);
            Call[] calls = {y -> y.call(n, 0), y -> y.link(false, n, 0), y -> y.link(true, n, 0), y -> y.link(false, 0, n),
                y -> y.link(true, 0, n), y -> y.at(false, n), y -> y.at(true, n), y -> y.thanks(n, false),
                y -> y.thanks(n, true), y -> y.connect(n, 15), y -> y.connect(15, n), y -> y.join(n, 15), y -> y.join(0, n),
                y -> y.hang(n), y -> y.drop(n), y -> y.setBroken(n, false), y -> y.setBroken(n, true), y -> y.moves(n, 15),
                y -> y.moves(15, n), y -> y.save(n), y -> y.restore(n)};
            for (int i = 0; i < calls.length; i++) {
                Call call = calls[i];
                due("call " + i + " of the list, with " + n, INDEX, () -> call.on(x));
            }
        }
    }

    static void otherArguments() {
        sentence("IllegalArgumentException means that another argument is out of its range.");
        for (int n : OUTSIDE) {
            SwitchRows x = full();
            Call[] calls = {y -> y.about(n), y -> y.call(0, n), y -> y.setPatience(n), y -> y.open(n), y -> y.runScript(n, 0L),
                y -> y.simulate(0L, n), y -> y.append(n)};
            for (int i = 0; i < calls.length; i++) {
                Call call = calls[i];
                due("call " + i + " of the list, with " + n, ARGUMENT, () -> call.on(x));
            }
        }
    }

    static void firstExceptionNamed() {
        sentence("If several exceptions apply to a call, the one that its description names first is thrown.");
        SwitchRows none = new SwitchRows();
        due("call: no call, no number", INDEX, () -> none.call(0, 5));
        due("join: no call, no output", INDEX, () -> none.join(0, 6));
        due("restore: no slot, nothing saved", INDEX, () -> none.restore(2));
        SwitchRows text = new SwitchRows();
        for (int i = 0; i < 120; i++) {
            text.append('C');
        }
        due("append: no character, no room", ARGUMENT, () -> text.append(256));
        due("append: no character below, no room", ARGUMENT, () -> text.append(-1));
        SwitchRows x = full();
        due("connect: taken input, no output", INDEX, () -> x.connect(0, 16));
        due("connect: no input, taken output", INDEX, () -> x.connect(16, 0));
        due("join: no call, taken output", INDEX, () -> x.join(16, 0));
        due("join: no output, no room", INDEX, () -> x.join(0, 16));
        due("setBroken: no board, all others have calls", INDEX, () -> x.setBroken(4, true));
        SwitchRows four = loaded("C1414c0000j0001j0002j0003");
        due("join: no output, four outputs", INDEX, () -> four.join(0, 16));
        due("runScript: n and script", ARGUMENT, () -> x.runScript(0, -1L));
    }
}
