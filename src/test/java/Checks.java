/** Counts checks, prints those that fail, and makes boards out of drawn rows. */
final class Checks {
    private int done;
    private int wrong;

    void same(String what, long got, long want) {
        done++;
        if (got != want) {
            wrong++;
            System.out.println(what + " answered " + got + ", due is " + want);
        }
    }

    void same(String what, boolean got, boolean want) {
        same(what, got ? 1 : 0, want ? 1 : 0);
    }

    void yes(String what, boolean got) {
        same(what, got, true);
    }

    void no(String what, boolean got) {
        same(what, got, false);
    }

    /** The call throws exactly that exception, not one of its subclasses. */
    void fails(String what, Class<? extends RuntimeException> want, Runnable call) {
        done++;
        Class<?> got = null;
        try {
            call.run();
        } catch (RuntimeException e) {
            got = e.getClass();
        }
        if (got != want) {
            wrong++;
            String happened = got == null ? "nothing" : got.getSimpleName();
            System.out.println(what + " threw " + happened + ", due is " + want.getSimpleName());
        }
    }

    void noPoint(String what, Runnable call) {
        fails(what, IndexOutOfBoundsException.class, call);
    }

    void badArgument(String what, Runnable call) {
        fails(what, IllegalArgumentException.class, call);
    }

    void badState(String what, Runnable call) {
        fails(what, IllegalStateException.class, call);
    }

    /** Ends the program with 1 if a check failed. */
    void end(String name) {
        System.out.println(name + ": " + done + " checks, " + wrong + " wrong");
        if (wrong != 0) {
            System.exit(1);
        }
    }

    /** A board from rows of '.' (free), 'X' (black) and 'O' (white). */
    static StoneBoard drawn(String... rows) {
        StoneBoard board = new StoneBoard(rows.length);
        for (int row = 0; row < rows.length; row++) {
            for (int column = 0; column < rows.length; column++) {
                int kind = ".XO".indexOf(rows[row].charAt(column));
                if (kind != 0 && !board.put(rows.length * row + column, kind)) {
                    throw new IllegalArgumentException("a drawn string has no breath");
                }
            }
        }
        return board;
    }

    /** The rows of a board, one behind the other, as they are drawn. */
    static String picture(StoneBoard board) {
        StringBuilder text = new StringBuilder();
        for (int point = 0; point < board.size() * board.size(); point++) {
            text.append(".XO".charAt(board.at(point)));
        }
        return text.toString();
    }

    void looks(String what, StoneBoard board, String... rows) {
        done++;
        String got = picture(board);
        String want = String.join("", rows);
        if (!got.equals(want)) {
            wrong++;
            System.out.println(what + " looks " + got + ", due is " + want);
        }
    }
}
