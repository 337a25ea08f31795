/** What the tests share: how an answer is asked and compared, how an object is made, what it tells of itself. */
abstract class Checks {
    static final long INDEX = Long.MIN_VALUE;
    static final long ARGUMENT = Long.MIN_VALUE + 1;
    static final long STATE = Long.MIN_VALUE + 2;
    static final long OTHER = Long.MIN_VALUE + 3;
    static final int NONE = -1;
    static final int REMEMBERED = 14;

    /** One call at middle board 1 (2 to 2), one at 0 (0 to 0), on two boards in each row. */
    static final String TWO_APART = "C2222b0c0202b0c0000";

    static int wrong = 0;
    /** What is tested now: a promise, or a sentence of the document. */
    static String promise = "";

    interface Question {
        long ask();
    }

    /** A call of an object that is told later. */
    interface Call {
        long on(SwitchRows x);
    }

    /** Makes an object that is always the same. */
    interface Maker {
        SwitchRows make();
    }

    static void sentence(String text) {
        promise = "\"" + text + "\"";
    }

    static String told(long answer) {
        return answer == INDEX ? "IndexOutOfBoundsException"
            : answer == ARGUMENT ? "IllegalArgumentException"
            : answer == STATE ? "IllegalStateException"
            : answer == OTHER ? "an exception that is not one of the document" : "" + answer;
    }

    static long answer(Question question) {
        try {
            return question.ask();
        } catch (IndexOutOfBoundsException e) {
            return e.getClass() == IndexOutOfBoundsException.class ? INDEX : OTHER;
        } catch (IllegalArgumentException e) {
            return e.getClass() == IllegalArgumentException.class ? ARGUMENT : OTHER;
        } catch (IllegalStateException e) {
            return e.getClass() == IllegalStateException.class ? STATE : OTHER;
        }
    }

    static void due(String what, long want, Question question) {
        long got = answer(question);
        if (got != want) {
            wrong++;
            System.out.println(promise + ", " + what + ": answered " + told(got) + ", due is " + told(want));
        }
    }

    static void dueText(String what, String want, String got) {
        if (!got.equals(want)) {
            wrong++;
            System.out.println(promise + ", " + what + ": it is " + got + ", due is " + want);
        }
    }

    static void dueView(String what, String want, SwitchRows x) {
        dueText(what, want, view(x));
    }

    static void end() {
        System.out.println(wrong == 0 ? "all answers are as due" : wrong + " answers are not as due");
        if (wrong != 0) {
            System.exit(1);
        }
    }

    // ---- objects

    static void write(SwitchRows x, String text) {
        x.clearText();
        for (int i = 0; i < text.length(); i++) {
            x.append(text.charAt(i));
        }
    }

    static SwitchRows written(String text) {
        SwitchRows x = new SwitchRows();
        write(x, text);
        return x;
    }

    static SwitchRows loaded(String text) {
        SwitchRows x = written(text);
        x.load();
        return x;
    }

    /** 16 calls, each from an input to the output of the same number: all places and all links are taken. */
    static SwitchRows full() {
        SwitchRows x = loaded("C4444");
        for (int i = 0; i < 16; i++) {
            x.connect(i, i);
        }
        return x;
    }

    /** Has a bit of all: calls with one output and with more, moves, thanks, a broken board, 14 states, two slots. */
    static SwitchRows busy() {
        SwitchRows x = loaded("C2332b0c0303b0c0000");
        x.setBroken(2, true);
        x.save(0);
        x.connect(1, 4);
        x.setPatience(1);
        x.join(1, 1);
        x.join(1, 2);
        x.drop(2);
        x.connect(4, 2);
        x.save(1);
        x.hang(3);
        x.setBroken(2, true);
        x.setPatience(1);
        x.connect(5, 2);
        x.setPatience(0);
        x.setPatience(2);
        x.setPatience(1);
        return x;
    }

    // ---- what they tell

    /** The numbers, the calls and the thanks, in one text. */
    static String view(SwitchRows x) {
        StringBuilder view = new StringBuilder();
        for (int what = 0; what <= 9; what++) {
            view.append(x.about(what)).append(' ');
        }
        for (int c = 0; c < x.about(4); c++) {
            view.append("| ");
            for (int what = 0; what <= 4; what++) {
                view.append(x.call(c, what)).append(' ');
            }
        }
        for (int i = 0; i < x.about(0) * x.about(1); i++) {
            view.append("; ").append(x.thanks(i, true)).append(' ').append(x.thanks(i, false));
        }
        return view.toString();
    }

    /** Who has the links and the places, in one text. */
    static String taken(SwitchRows x) {
        StringBuilder taken = new StringBuilder();
        for (int m = 0; m < x.about(2); m++) {
            for (int board = 0; board < x.about(0); board++) {
                taken.append(x.link(false, m, board)).append(' ');
            }
            for (int board = 0; board < x.about(3); board++) {
                taken.append(x.link(true, m, board)).append(' ');
            }
            taken.append("; ");
        }
        for (int i = 0; i < x.about(0) * x.about(1); i++) {
            taken.append(x.at(false, i)).append(' ');
        }
        taken.append("; ");
        for (int i = 0; i < x.about(3) * x.about(1); i++) {
            taken.append(x.at(true, i)).append(' ');
        }
        return taken.toString();
    }

    static String boards(SwitchRows x) {
        StringBuilder boards = new StringBuilder();
        for (int c = 0; c < x.about(4); c++) {
            boards.append(x.call(c, 2));
        }
        return boards.toString();
    }

    /** All that an object tells: of its state, its text, its slots and the states it remembers. */
    static String all(Maker maker, Call before) {
        StringBuilder all = new StringBuilder();
        for (int undone = 0; undone <= REMEMBERED + 1; undone++) {
            SwitchRows x = made(maker, before);
            for (int i = 0; i < undone; i++) {
                all.append(told(answer(() -> x.undo()))).append(' ');
            }
            all.append(view(x)).append(taken(x)).append('\n');
        }
        for (int slot = 0; slot < 2; slot++) {
            SwitchRows x = made(maker, before);
            int s = slot;
            all.append(told(answer(() -> x.restore(s)))).append(' ').append(view(x)).append(taken(x)).append('\n');
        }
        SwitchRows x = made(maker, before);
        all.append(x.errorPosition()).append(' ').append(told(answer(() -> x.load()))).append(' ').append(view(x));
        return all.append(' ').append(x.clearText()).toString();
    }

    private static SwitchRows made(Maker maker, Call before) {
        SwitchRows x = maker.make();
        answer(() -> before.on(x));
        return x;
    }

    /** An answer that is due, of a call behind which the object tells the same as without it. */
    static void dueAndNothingElse(String what, long want, Maker maker, Call call) {
        SwitchRows x = maker.make();
        due(what, want, () -> call.on(x));
        dueText(what + ", and nothing is changed", all(maker, y -> 0), all(maker, call));
    }

    // ---- simulations

    /** Does the turns by the public actions, as the document tells them. */
    static long turnsByHand(SwitchRows x, long seed, int m) {
        int moving = x.about(6);
        for (int turn = 0; turn < m; turn++) {
            seed = seed * 6364136223846793005L + 1442695040888963407L;
            int r = (int) (seed >>> 33);
            int i = r / 8 % (x.about(0) * x.about(1));
            int o = r / 128 % (x.about(3) * x.about(1));
            int c = r / 8 % Math.max(1, x.about(4));
            try {
                if (r % 8 <= 3) {
                    x.connect(i, o);
                } else if (r % 8 == 4) {
                    x.join(c, o);
                } else if (r % 8 <= 6) {
                    x.hang(c);
                } else {
                    x.drop(o);
                }
            } catch (IllegalStateException e) {
                // It is left out.
            } catch (IndexOutOfBoundsException e) {
                // It is left out.
            }
        }
        return 1000L * (x.about(6) - moving) + x.about(4);
    }
}
