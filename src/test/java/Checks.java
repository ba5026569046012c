/** Counts checks, prints those that fail, and makes boards out of drawn rows. */
final class Checks {
    private int done;
    private int wrong;
    private int sentences;
    private String sentence = "";

    /** The document's words that the checks from here on are about. */
    void sentence(String words) {
        sentences++;
        sentence = " [" + words + "]";
    }

    void same(String what, long got, long want) {
        compare(what + " answered ", "" + got, "" + want);
    }

    void same(String what, String got, String want) {
        compare(what + " answered ", got, want);
    }

    private void compare(String what, String got, String want) {
        done++;
        if (!got.equals(want)) {
            wrong++;
            System.out.println(what + got + ", due is " + want + sentence);
        }
    }

    void same(String what, boolean got, boolean want) {
        same(what, got ? 1 : 0, want ? 1 : 0);
    }

    void yes(String what, boolean got) {
        same(what, got, true);
    }

    void no(String what, boolean got) {
        same(what, got, false);
    }

    /** The call throws exactly that exception, not one of its subclasses. */
    void fails(String what, Class<? extends RuntimeException> want, Runnable call) {
        String got = "nothing";
        try {
            call.run();
        } catch (RuntimeException e) {
            got = e.getClass().getSimpleName();
        }
        compare(what + " threw ", got, want.getSimpleName());
    }

    void noPoint(String what, Runnable call) {
        fails(what, IndexOutOfBoundsException.class, call);
    }

    void badArgument(String what, Runnable call) {
        fails(what, IllegalArgumentException.class, call);
    }

    void badState(String what, Runnable call) {
        fails(what, IllegalStateException.class, call);
    }

    /** Ends the program with 1 if a check failed. */
    void end(String name) {
        String about = sentences == 0 ? "" : " of " + sentences + " sentences";
        System.out.println(name + ": " + done + " checks" + about + ", " + wrong + " wrong");
        if (wrong != 0) {
            System.exit(1);
        }
    }

    /** A board from rows of '.' (free), 'X' (black) and 'O' (white). */
    static StoneBoard drawn(String... rows) {
        StoneBoard board = new StoneBoard(rows.length);
        for (int row = 0; row < rows.length; row++) {
            for (int column = 0; column < rows.length; column++) {
                int kind = ".XO".indexOf(rows[row].charAt(column));
                if (kind != 0 && !board.put(rows.length * row + column, kind)) {
                    throw new IllegalArgumentException("a drawn string has no breath");
                }
            }
        }
        return board;
    }

    /** Drawn rows, turned to the right by a quarter. */
    static String[] turned(String... rows) {
        String[] turned = new String[rows.length];
        for (int row = 0; row < rows.length; row++) {
            StringBuilder text = new StringBuilder();
            for (int from = rows.length - 1; from >= 0; from--) {
                text.append(rows[from].charAt(row));
            }
            turned[row] = text.toString();
        }
        return turned;
    }

    /** Drawn rows, the last one first. */
    static String[] mirrored(String... rows) {
        String[] mirrored = new String[rows.length];
        for (int row = 0; row < rows.length; row++) {
            mirrored[row] = rows[rows.length - 1 - row];
        }
        return mirrored;
    }

    /** The rows of a board, one behind the other, as they are drawn. */
    static String picture(StoneBoard board) {
        StringBuilder text = new StringBuilder();
        for (int point = 0; point < board.size() * board.size(); point++) {
            text.append(".XO".charAt(board.at(point)));
        }
        return text.toString();
    }

    void looks(String what, StoneBoard board, String... rows) {
        compare(what + " looks ", picture(board), String.join("", rows));
    }

    /** What every call that only asks answers, one behind the other. */
    static String answers(StoneBoard board) {
        StringBuilder text = new StringBuilder(picture(board));
        text.append(" turn ").append(board.turn()).append(" allowed ").append(board.allowed());
        text.append(" moves");
        for (int i = 0; i < board.moves(); i++) {
            text.append(' ').append(board.move(i));
        }
        for (int side = 0; side <= 2; side++) {
            text.append(" side ").append(side).append(' ').append(board.ground(side));
            if (side > 0) {
                text.append(' ').append(board.taken(side)).append(' ').append(board.strings(side));
                text.append(' ').append(board.safe(side));
            }
        }
        for (int point = 0; point < board.size() * board.size(); point++) {
            text.append(" point ").append(point).append(' ').append(board.why(point));
            text.append(' ').append(board.ago(point)).append(' ').append(board.owner(point));
            text.append(' ').append(board.alive(point));
            for (int what = 0; what < 4; what++) {
                text.append(' ').append(board.string(point, what));
            }
        }
        return text.toString();
    }

    /** All answers, and then those of the way back to the beginning, which it goes. */
    static String story(StoneBoard board) {
        StringBuilder text = new StringBuilder(answers(board));
        while (board.moves() > 0) {
            text.append(" back ").append(board.back()).append(' ').append(picture(board));
            text.append(' ').append(board.turn()).append(' ').append(board.taken(1));
            text.append(' ').append(board.taken(2)).append(' ').append(board.allowed());
        }
        return text.toString();
    }
}
