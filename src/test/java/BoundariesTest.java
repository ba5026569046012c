import java.util.function.Consumer;
import java.util.function.Supplier;

/** The boundary cases that the promises 1 to 21 name, sentence by sentence. */
public final class BoundariesTest {
    private static final int BLACK = 1;
    private static final int WHITE = 2;
    private static final int LEAST = Integer.MIN_VALUE;
    private static final int GREATEST = Integer.MAX_VALUE;
    private static final Checks is = new Checks();

    public static void main(String[] args) {
        promise1();
        promise2();
        promise3();
        promise4Kinds();
        promise4Beginning();
        promise4False();
        promise4Late();
        promise5();
        promise5Late();
        promise6();
        promise7();
        promise7Refused();
        promise8();
        promise8Order();
        promise9();
        promise10();
        promise11();
        promise11AsItWas();
        promise12();
        promise13();
        promise14();
        promise15();
        promise15What();
        promise16();
        promise17();
        promise18();
        promise19();
        promise20();
        promise21Numbers();
        promise21Never();
        promise21Least();
        is.end("BoundariesTest");
    }

    private static void promise1() {
        is.sentence("1: A free board with n rows (the nearest of 2 .. 13)");
        int[] asked = {LEAST, -13, -1, 0, 1, 2, 3, 12, 13, 14, 15, 169, GREATEST};
        int[] due = {2, 2, 2, 2, 2, 2, 3, 12, 13, 13, 13, 13, 13};
        for (int i = 0; i < asked.length; i++) {
            String name = "new StoneBoard(" + asked[i] + ")";
            StoneBoard board = new StoneBoard(asked[i]);
            is.same(name + ", rows", board.size(), due[i]);
            is.same(name + ", free points", board.allowed(), due[i] * due[i]);
            is.same(name + ", last point", board.at(due[i] * due[i] - 1), 0);
            is.noPoint(name + ", no point more", () -> board.at(board.size() * board.size()));
            is.same(name + " is a new board of the nearest n",
                    Checks.answers(board), Checks.answers(new StoneBoard(due[i])));
        }
    }

    private static void promise2() {
        is.sentence("2: n");
        for (int n = 2; n <= 13; n++) {
            StoneBoard board = new StoneBoard(n);
            is.same("size()", board.size(), n);
            board.play(n * n - 1);
            board.pass();
            board.pass();
            is.same("size() when the game has ended", board.size(), n);
        }
    }

    private static void promise3() {
        is.sentence("3: What a point has: 0, 1, 2");
        StoneBoard board = Checks.drawn("X.", ".O");
        is.same("at(0)", board.at(0), 1);
        is.same("at(1)", board.at(1), 0);
        is.same("at(2)", board.at(2), 0);
        is.same("at(3)", board.at(3), 2);
        is.sentence("3: IndexOutOfBoundsException");
        for (int point : new int[] {LEAST, -4, -1, 4, 5, GREATEST}) {
            is.noPoint("at(" + point + ")", () -> board.at(point));
        }
    }

    private static void promise4Kinds() {
        is.sentence("4: a point gets a stone of a side, or becomes free (0)");
        StoneBoard board = new StoneBoard(2);
        is.yes("put(0, 0) of a free point", board.put(0, 0));
        is.yes("put(0, 1)", board.put(0, BLACK));
        is.yes("put(3, 2)", board.put(3, WHITE));
        is.looks("both sides", board, "X.", ".O");
        is.yes("put(0, 0)", board.put(0, 0));
        is.looks("free again", board, "..", ".O");
        is.sentence("4: (what a point had goes)");
        is.yes("put(3, 2) where white is", board.put(3, WHITE));
        is.yes("put(3, 1) where white was", board.put(3, BLACK));
        is.looks("the other side's", board, "..", ".X");
        is.same("strings(2)", board.strings(WHITE), 0);
        is.same("taken(2): what goes was not taken", board.taken(WHITE), 0);
        is.sentence("4: IndexOutOfBoundsException; IllegalArgumentException: side is not 0 .. 2");
        for (int wrong : new int[] {LEAST, -1, GREATEST}) {
            is.noPoint("put(" + wrong + ", 1)", () -> board.put(wrong, BLACK));
            is.badArgument("put(0, " + wrong + ")", () -> board.put(0, wrong));
        }
        is.noPoint("put(4, 1)", () -> board.put(4, BLACK));
        is.badArgument("put(0, 3)", () -> board.put(0, 3));
        is.looks("behind calls that threw", board, "..", ".X");
    }

    private static void promise4Beginning() {
        is.sentence("4: that board is the beginning then");
        StoneBoard board = new StoneBoard(3);
        board.put(1, WHITE);
        board.put(3, WHITE);
        is.same("why(0): the beginning may not come again", board.why(0), 3);
        board.put(3, 0);
        is.same("why(0): an earlier beginning never stood", board.why(0), 0);
        board.put(8, BLACK);
        board.put(8, 0);
        is.same("why(8): an earlier beginning never stood", board.why(8), 0);
        is.same("ago(8): an earlier beginning never stood", board.ago(8), -1);
        is.same("play(8)", board.play(8), 0);
        board.back();
        is.looks("back() comes to the beginning", board, ".O.", "...", "...");
        board.put(4, WHITE);
        board.play(0);
        board.back();
        is.looks("back() comes to the new beginning", board, ".O.", ".O.", "...");
    }

    private static void promise4False() {
        is.sentence("4: False, and nothing is changed, if a string would have no breath");
        String[] eye = {".O.", "OO.", "..."};
        refused("a stone without a breath", 0, BLACK, eye);
        refused("a stone where it closes its own string in", 1, BLACK, "X.O", "OO.", "...");
        refused("a stone that closes the other side's in", 1, WHITE, "X..", "O..", "...");
        refused("a stone that closes both in", 1, WHITE, "X.X", "OXX", ".OO");
        refused("a stone over another that shuts a string off", 1, WHITE, "XX.", "OO.", "...");
        for (int n = 2; n <= 13; n++) {
            StoneBoard full = new StoneBoard(n);
            for (int point = n * n - 1; point > 0; point--) {
                full.put(point, BLACK);
            }
            is.no(n + " rows, the last free point for black", full.put(0, BLACK));
            is.no(n + " rows, the last free point for white", full.put(0, WHITE));
            is.same(n + " rows, it is free", full.at(0), 0);
            is.yes(n + " rows, making it free", full.put(0, 0));
        }
        StoneBoard own = Checks.drawn(eye);
        is.yes("its own side fills the eye", own.put(0, WHITE));
        StoneBoard far = Checks.drawn("XXX", "X.O", "XO.");
        is.no("the stone has a breath, but a string loses its last one", far.put(4, WHITE));
    }

    private static void refused(String what, int point, int side, String... rows) {
        StoneBoard board = Checks.drawn(rows);
        is.no(what, board.put(point, side));
        is.same("all behind " + what, Checks.story(board), Checks.story(Checks.drawn(rows)));
    }

    private static void promise4Late() {
        is.sentence("4: IllegalStateException: a move or a pass was made (and not taken back)");
        StoneBoard board = Checks.drawn(".O.", "O..", "...");
        board.play(8);
        is.badState("put behind a move", () -> board.put(7, BLACK));
        is.badState("put of nothing behind a move", () -> board.put(7, 0));
        is.badState("put without a breath behind a move", () -> board.put(0, BLACK));
        board.pass();
        board.pass();
        is.badState("put when the game has ended", () -> board.put(7, BLACK));
        board.back();
        board.back();
        is.badState("put with one move left", () -> board.put(7, BLACK));
        board.back();
        is.yes("put with none left", board.put(7, BLACK));
        is.no("put without a breath with none left", board.put(0, BLACK));
        board.pass();
        is.badState("put behind a pass", () -> board.put(6, BLACK));
        board.back();
        is.yes("put with the pass taken back", board.put(6, BLACK));
        is.badState("play(0) that is not allowed", () -> board.play(0));
        is.yes("put behind a move that was refused", board.put(6, 0));
    }

    private static void promise5() {
        is.sentence("5: Before the first move: who moves first");
        StoneBoard board = new StoneBoard(2);
        board.first(WHITE);
        board.first(WHITE);
        is.same("turn() told twice", board.turn(), WHITE);
        board.first(BLACK);
        is.same("turn() told otherwise", board.turn(), BLACK);
        board.first(WHITE);
        board.put(0, BLACK);
        is.same("turn() behind put()", board.turn(), WHITE);
        is.same("why(1) for white", board.why(1), 0);
        board.play(3);
        is.same("at(3)", board.at(3), WHITE);
        board.back();
        is.same("turn() behind back()", board.turn(), WHITE);
        is.sentence("5: IllegalArgumentException: there is no such side");
        for (int side : new int[] {LEAST, -1, 0, 3, GREATEST}) {
            is.badArgument("first(" + side + ")", () -> board.first(side));
            is.same("turn() behind first(" + side + ")", board.turn(), WHITE);
        }
    }

    private static void promise5Late() {
        is.sentence("5: IllegalStateException as for put()");
        StoneBoard board = new StoneBoard(2);
        board.play(0);
        is.badState("first(1) behind a move", () -> board.first(BLACK));
        is.badState("first(2) behind a move", () -> board.first(WHITE));
        is.same("turn() behind both", board.turn(), WHITE);
        board.back();
        board.pass();
        is.badState("first(2) behind a pass", () -> board.first(WHITE));
        board.back();
        is.same("turn() behind it", board.turn(), BLACK);
        board.first(WHITE);
        is.same("turn() with the pass taken back", board.turn(), WHITE);
    }

    private static void promise6() {
        is.sentence("6: Whose turn it is");
        StoneBoard board = Checks.drawn("XO", "..");
        is.same("at the beginning, whatever stones there are", board.turn(), BLACK);
        board.pass();
        is.same("behind a pass", board.turn(), WHITE);
        is.same("play(2) takes", board.play(2), 1);
        is.same("behind a move that took", board.turn(), BLACK);
        is.badState("play(2), not free", () -> board.play(2));
        is.same("behind a move that was refused", board.turn(), BLACK);
        board.pass();
        board.pass();
        is.same("when the game has ended", board.turn(), BLACK);
        board.back();
        is.same("behind back()", board.turn(), WHITE);
    }

    private static void promise7() {
        is.sentence("7: how many stones were taken off");
        StoneBoard none = new StoneBoard(2);
        is.same("none", none.play(0), 0);
        StoneBoard one = Checks.drawn("O.", "X.");
        is.same("one", one.play(1), 1);
        StoneBoard own = Checks.drawn("XX", "X.");
        is.same("all, its own and the one that was put", own.play(3), 4);
        is.looks("nothing is left", own, "..", "..");
        StoneBoard both = Checks.drawn(".XO", "XOO", "OO.");
        is.same("the others first, and its own has a breath then", both.play(8), 5);
        is.looks("the others are gone", both, ".X.", "X..", "..X");
    }

    private static void promise7Refused() {
        is.sentence("7: IndexOutOfBoundsException; IllegalStateException");
        StoneBoard board = Checks.drawn(".O.", "O..", "...");
        for (int point : new int[] {LEAST, -1, 9, GREATEST}) {
            is.noPoint("play(" + point + ")", () -> board.play(point));
        }
        is.badState("play(1), not free", () -> board.play(1));
        is.badState("play(0), the board was there before", () -> board.play(0));
        is.same("moves() behind them", board.moves(), 0);
        is.same("turn() behind them", board.turn(), BLACK);
        board.pass();
        board.pass();
        is.badState("play(8), the game has ended", () -> board.play(8));
        board.back();
        is.same("play(8), the end taken back", board.play(8), 0);
    }

    private static void promise8() {
        is.sentence("8: 0 ALLOWED; 1 the game has ENDED; 2 it is not free; 3 it was there before");
        StoneBoard board = Checks.drawn(".O.", "O..", "...");
        is.same("why(8)", board.why(8), 0);
        is.same("why(1)", board.why(1), 2);
        is.same("why(0)", board.why(0), 3);
        is.sentence("8: for the side whose turn it is");
        board.pass();
        is.same("why(0) for white, who fills it", board.why(0), 0);
        board.pass();
        is.same("why(8) behind two passes", board.why(8), 1);
        is.sentence("8: IndexOutOfBoundsException");
        for (int point : new int[] {LEAST, -1, 9, GREATEST}) {
            is.noPoint("why(" + point + ") when the game has ended", () -> board.why(point));
        }
        board.back();
        for (int point : new int[] {LEAST, -1, 9, GREATEST}) {
            is.noPoint("why(" + point + ")", () -> board.why(point));
        }
    }

    private static void promise8Order() {
        is.sentence("8: What a move at a point would be: nothing is made");
        StoneBoard board = Checks.drawn("OX.", ".OX", "...");
        is.same("why(3), which would take", board.why(3), 0);
        is.looks("nothing was taken", board, "OX.", ".OX", "...");
        is.same("moves()", board.moves(), 0);
        is.same("taken(2)", board.taken(WHITE), 0);
        is.same("turn()", board.turn(), BLACK);
        is.same("play(3) behind why(8)", board.why(8) + board.play(3), 1);
        is.sentence("8: the first of the numbers that fits");
        StoneBoard over = Checks.drawn(".O.", "O..", "...");
        over.pass();
        over.pass();
        is.same("ended, free and new", over.why(8), 1);
        is.same("ended and not free", over.why(1), 1);
        is.same("ended and there before", over.why(0), 1);
    }

    private static void promise9() {
        is.sentence("9: At how many points a move is ALLOWED");
        for (int n = 2; n <= 13; n++) {
            is.same(n + " rows, all", new StoneBoard(n).allowed(), n * n);
        }
        StoneBoard lost = Checks.drawn(".O", "OO");
        lost.pass();
        lost.play(0);
        is.same("all, white having taken its own off", lost.allowed(), 4);
        StoneBoard single = Checks.drawn(".O.", "OOO", ".O.");
        is.same("none, though there are free points", single.allowed(), 0);
        is.no("the game has not ended for that", single.pass());
        is.same("white may fill each", single.allowed(), 4);
        single.pass();
        is.same("none when the game has ended", single.allowed(), 0);
        single.back();
        is.same("the end taken back", single.allowed(), 4);
        StoneBoard last = Checks.drawn(".X", "XX");
        is.same("one, which takes all off", last.allowed(), 1);
    }

    private static void promise10() {
        is.sentence("10: PASS: whether the game has ENDED then");
        StoneBoard board = new StoneBoard(2);
        board.play(0);
        is.no("the first pass", board.pass());
        is.looks("the board stays", board, "X.", "..");
        is.yes("the second pass", board.pass());
        is.looks("the board stays, too", board, "X.", "..");
        is.same("both count", board.moves(), 3);
        is.sentence("10: IllegalStateException");
        is.badState("a third pass", board::pass);
        is.same("it was not made", board.moves(), 3);
        board.back();
        is.yes("the second pass again", board.pass());
        board.back();
        board.back();
        is.no("the first pass again", board.pass());
        is.same("none of it was taken", board.taken(BLACK) + board.taken(WHITE), 0);
    }

    private static void promise11() {
        is.sentence("11: The latest move (or pass) is taken back: how many are left");
        StoneBoard board = new StoneBoard(2);
        board.play(0);
        board.pass();
        board.play(3);
        board.pass();
        board.pass();
        for (int left = 4; left >= 0; left--) {
            is.same("back()", board.back(), left);
            is.same("moves() behind back()", board.moves(), left);
        }
        is.sentence("11: IllegalStateException");
        is.badState("back() with none left", board::back);
        is.badState("back() on a new board", () -> new StoneBoard(2).back());
        StoneBoard put = Checks.drawn("X.", "..");
        is.badState("back() does not take put() back", put::back);
        is.looks("the stone stays", put, "X.", "..");
    }

    private static void promise11AsItWas() {
        is.sentence("11: what is taken back never was");
        takenBack("a move", () -> Checks.drawn("O..", "...", "..."), x -> x.play(8));
        takenBack("a move that takes", () -> Checks.drawn("OX.", ".X.", "..."), x -> x.play(3));
        takenBack("a move that loses", () -> Checks.drawn("X.O", "OO.", "..."), x -> x.play(1));
        takenBack("a pass", () -> Checks.drawn("X.O", "OO.", "..."), StoneBoard::pass);
        takenBack("the pass that ends the game", BoundariesTest::onePass, StoneBoard::pass);
        takenBack("a move behind a pass", BoundariesTest::onePass, x -> x.play(4));
    }

    private static StoneBoard onePass() {
        StoneBoard board = Checks.drawn(".X.", "X..", "...");
        board.first(WHITE);
        board.pass();
        return board;
    }

    private static void takenBack(String what, Supplier<StoneBoard> maker,
            Consumer<StoneBoard> call) {
        StoneBoard board = maker.get();
        call.accept(board);
        board.back();
        is.same("behind back() of " + what, Checks.story(board), Checks.story(maker.get()));
        StoneBoard again = maker.get();
        call.accept(again);
        again.back();
        call.accept(again);
        StoneBoard once = maker.get();
        call.accept(once);
        is.same(what + " again", Checks.story(again), Checks.story(once));
    }

    private static void promise12() {
        is.sentence("12: How many moves and passes were made");
        StoneBoard board = new StoneBoard(2);
        board.put(0, BLACK);
        board.put(3, WHITE);
        is.same("put() is no move", board.moves(), 0);
        board.play(1);
        is.same("a move", board.moves(), 1);
        board.pass();
        is.same("a pass", board.moves(), 2);
        is.badState("play(0), not free", () -> board.play(0));
        is.same("a move that was refused", board.moves(), 2);
        board.pass();
        is.badState("pass(), the game has ended", board::pass);
        is.same("a pass that was refused", board.moves(), 3);
        board.back();
        is.same("one taken back", board.moves(), 2);
    }

    private static void promise13() {
        is.sentence("13: The point of move i (from 0 on); -1 for a pass");
        StoneBoard board = new StoneBoard(13);
        board.play(168);
        board.pass();
        board.play(0);
        is.same("move(0)", board.move(0), 168);
        is.same("move(1)", board.move(1), -1);
        is.same("move(2)", board.move(2), 0);
        is.sentence("13: IndexOutOfBoundsException: there is no such move");
        for (int i : new int[] {LEAST, -1, 3, 4, GREATEST}) {
            is.noPoint("move(" + i + ")", () -> board.move(i));
        }
        board.back();
        is.noPoint("move(2), taken back", () -> board.move(2));
        is.noPoint("move(0) of none", () -> new StoneBoard(13).move(0));
        StoneBoard twice = Checks.drawn("X.O", "OO.", "...");
        twice.play(1);
        twice.play(1);
        is.same("a point that was free again", twice.move(1), twice.move(0));
    }

    private static void promise14() {
        is.sentence("14: How many stones of a side were taken off by all moves");
        StoneBoard board = Checks.drawn("OX.", "...", ".OX");
        is.same("none at first", board.taken(WHITE), 0);
        board.play(3);
        is.same("one", board.taken(WHITE), 1);
        is.same("none of the other side", board.taken(BLACK), 0);
        board.play(5);
        is.same("one of the other side", board.taken(BLACK), 1);
        is.same("still one", board.taken(WHITE), 1);
        board.pass();
        is.same("a pass takes none", board.taken(BLACK), 1);
        is.sentence("14: (not those that were taken back; its own moves, too)");
        board.back();
        board.back();
        is.same("taken back", board.taken(BLACK), 0);
        is.same("not taken back", board.taken(WHITE), 1);
        StoneBoard own = Checks.drawn("X.O", "OO.", "...");
        own.play(1);
        is.same("its own move", own.taken(BLACK), 2);
        own.back();
        is.same("its own move taken back", own.taken(BLACK), 0);
        is.sentence("14: IllegalArgumentException");
        for (int side : new int[] {LEAST, -1, 0, 3, GREATEST}) {
            is.badArgument("taken(" + side + ")", () -> board.taken(side));
        }
    }

    private static void promise15() {
        is.sentence("15: how many stones (0), breaths (1), the least point of its stones (2), ...");
        StoneBoard first = Checks.drawn("X..", "...", "...");
        int[] atFirst = {1, 2, 0, 1};
        StoneBoard last = Checks.drawn("...", "...", "..O");
        int[] atLast = {1, 2, 8, 5};
        StoneBoard bent = Checks.drawn("..X", "XXX", "...");
        int[] ofBent = {4, 5, 2, 0};
        StoneBoard narrow = Checks.drawn("XX", "X.");
        int[] ofNarrow = {3, 1, 0, 3};
        StoneBoard before = Checks.drawn(".X", "XX");
        int[] ofBefore = {3, 1, 1, 0};
        for (int what = 0; what <= 3; what++) {
            is.same("first point, " + what, first.string(0, what), atFirst[what]);
            is.same("last point, " + what, last.string(8, what), atLast[what]);
            is.same("bent string, " + what, bent.string(3, what), ofBent[what]);
            is.same("its other end, " + what, bent.string(2, what), ofBent[what]);
            is.same("two rows, " + what, narrow.string(2, what), ofNarrow[what]);
            is.same("breath before all stones, " + what, before.string(3, what), ofBefore[what]);
        }
        is.sentence("15: -1 for a free point");
        for (int what = 0; what <= 3; what++) {
            is.same("free board, " + what, new StoneBoard(2).string(3, what), -1);
            is.same("eye, " + what, before.string(0, what), -1);
        }
    }

    private static void promise15What() {
        is.sentence("15: IndexOutOfBoundsException; IllegalArgumentException: another what");
        StoneBoard board = Checks.drawn("X.", "..");
        for (int what : new int[] {LEAST, -1, 4, 5, GREATEST}) {
            is.badArgument("string(0, " + what + ")", () -> board.string(0, what));
            is.badArgument("string(3, " + what + "), free", () -> board.string(3, what));
            is.noPoint("string(4, " + what + ")", () -> board.string(4, what));
        }
        for (int point : new int[] {LEAST, -1, 4, GREATEST}) {
            is.noPoint("string(" + point + ", 3)", () -> board.string(point, 3));
        }
    }

    private static void promise16() {
        is.sentence("16: How many strings a side has");
        StoneBoard board = new StoneBoard(3);
        is.same("none", board.strings(BLACK), 0);
        board.put(0, BLACK);
        board.put(2, BLACK);
        is.same("two", board.strings(BLACK), 2);
        is.same("none of the other side", board.strings(WHITE), 0);
        board.put(1, BLACK);
        is.same("joined", board.strings(BLACK), 1);
        board.put(1, WHITE);
        is.same("cut", board.strings(BLACK), 2);
        is.same("by one", board.strings(WHITE), 1);
        board.put(5, BLACK);
        is.same("play(4) takes one", board.play(4), 1);
        is.same("none is left", board.strings(WHITE), 0);
        is.sentence("16: IllegalArgumentException");
        for (int side : new int[] {LEAST, -1, 0, 3, GREATEST}) {
            is.badArgument("strings(" + side + ")", () -> board.strings(side));
        }
    }

    private static void promise17() {
        is.sentence("17: How many points are GROUND of a side (0: of none)");
        for (int n = 2; n <= 13; n++) {
            StoneBoard board = new StoneBoard(n);
            is.same(n + " rows, of none", board.ground(0), n * n);
            is.same(n + " rows, of black", board.ground(BLACK), 0);
            is.same(n + " rows, of white", board.ground(WHITE), 0);
            board.play(0);
            is.same(n + " rows, all of black", board.ground(BLACK), n * n);
            is.same(n + " rows, none of none", board.ground(0), 0);
            board.play(n * n - 1);
            is.same(n + " rows, one of black", board.ground(BLACK), 1);
            is.same(n + " rows, one of white", board.ground(WHITE), 1);
            is.same(n + " rows, the others of none", board.ground(0), n * n - 2);
        }
        is.sentence("17: IllegalArgumentException: side is not 0 .. 2");
        for (int side : new int[] {LEAST, -1, 3, GREATEST}) {
            is.badArgument("ground(" + side + ")", () -> new StoneBoard(2).ground(side));
        }
    }

    private static void promise18() {
        is.sentence("18: Of which side a point is GROUND; 0 of none");
        StoneBoard board = Checks.drawn(".X.", "XX.", "..O");
        is.same("closed in by black", board.owner(0), BLACK);
        is.same("a black stone", board.owner(1), BLACK);
        is.same("beside black, and white is to be come to", board.owner(2), 0);
        is.same("beside both", board.owner(5), 0);
        is.same("a white stone", board.owner(8), WHITE);
        is.same("a free board", new StoneBoard(2).owner(3), 0);
        StoneBoard closed = Checks.drawn(".X.", "XXO", ".OO");
        is.same("a stone without ground of its own keeps its point", closed.owner(8), WHITE);
        is.same("between both, one point", closed.owner(2), 0);
        is.sentence("18: IndexOutOfBoundsException");
        for (int point : new int[] {LEAST, -1, 9, GREATEST}) {
            is.noPoint("owner(" + point + ")", () -> board.owner(point));
        }
    }

    private static void promise19() {
        is.sentence("19: Whether the string at a point is ALIVE");
        StoneBoard board = Checks.drawn(".X.", "XXX", ".X.");
        is.yes("a stone of it", board.alive(1));
        is.yes("another stone of it", board.alive(7));
        is.sentence("19: false for a free point");
        is.no("a region of it", board.alive(0));
        is.no("a free board", new StoneBoard(2).alive(0));
        StoneBoard prisoner = Checks.drawn(".OX", "XXX", ".X.");
        is.yes("a string with a prisoner", prisoner.alive(2));
        is.no("the prisoner", prisoner.alive(1));
        is.sentence("19: IndexOutOfBoundsException");
        for (int point : new int[] {LEAST, -1, 9, GREATEST}) {
            is.noPoint("alive(" + point + ")", () -> prisoner.alive(point));
        }
    }

    private static void promise20() {
        is.sentence("20: How many points are SAFE for a side");
        StoneBoard board = Checks.drawn(".OX", "XXX", ".X.");
        is.same("all, the prisoner's too", board.safe(BLACK), 9);
        is.same("none for the prisoner", board.safe(WHITE), 0);
        is.same("none on a free board", new StoneBoard(13).safe(WHITE), 0);
        StoneBoard both = Checks.drawn(
                ".X.XO",
                "XXXXO",
                "OOOOO",
                "XOO.O",
                ".XOO.");
        is.same("white's two eyes, the rest beside what stands", both.safe(WHITE), 25);
        is.same("black's own, without the region beside what fell", both.safe(BLACK), 6 + 2);
        is.sentence("20: IllegalArgumentException");
        for (int side : new int[] {LEAST, -1, 0, 3, GREATEST}) {
            is.badArgument("safe(" + side + ")", () -> board.safe(side));
        }
    }

    private static StoneBoard justTaken() {
        StoneBoard board = Checks.drawn(".XO.", "X.XO", ".XO.", "....");
        board.first(WHITE);
        board.play(5);
        return board;
    }

    private static void promise21Numbers() {
        is.sentence("21: 1: before the latest move");
        is.same("ago(6) at once", justTaken().ago(6), 1);
        is.sentence("21: 0: as it is now");
        StoneBoard now = Checks.drawn(".O.", "O..", "...");
        is.same("ago(0) at the beginning", now.ago(0), 0);
        now.play(8);
        now.play(7);
        is.same("ago(0) later", now.ago(0), 0);
        is.sentence("21: How many moves ago the board was: the beginning, all moves ago");
        StoneBoard pair = Checks.drawn("..O", "OO.", "...");
        pair.play(0);
        pair.pass();
        is.same("ago(1)", pair.ago(1), pair.moves());
        is.sentence("21: (Passes count as moves)");
        StoneBoard board = justTaken();
        board.pass();
        board.pass();
        is.same("ago(6) behind two passes", board.ago(6), 3);
        board.back();
        board.back();
        is.same("ago(6) with both taken back", board.ago(6), 1);
    }

    private static void promise21Never() {
        is.sentence("21: -1 when it never was");
        is.same("ago(0) on a new board", new StoneBoard(2).ago(0), -1);
        StoneBoard board = justTaken();
        is.same("ago(15)", board.ago(15), -1);
        board.pass();
        is.same("ago(6) for the other side", board.ago(6), -1);
        board.back();
        board.back();
        is.same("ago(5): the move that was taken back", board.ago(5), -1);
        is.sentence("21: -1 when ... the point is not free");
        StoneBoard stones = Checks.drawn("X.", ".O");
        is.same("ago(0), its own stone", stones.ago(0), -1);
        is.same("ago(3), the other side's", stones.ago(3), -1);
        stones.pass();
        stones.pass();
        is.same("ago(0) when the game has ended", stones.ago(0), -1);
        is.sentence("21: IndexOutOfBoundsException");
        for (int point : new int[] {LEAST, -1, 4, GREATEST}) {
            is.noPoint("ago(" + point + ")", () -> stones.ago(point));
        }
    }

    private static void promise21Least() {
        is.sentence("21: of several the least");
        StoneBoard now = Checks.drawn(".O.", "O..", "...");
        now.first(WHITE);
        now.pass();
        is.same("now, and one move ago", now.ago(0), 0);
        StoneBoard pair = Checks.drawn("..O", "OO.", "...");
        pair.first(WHITE);
        pair.pass();
        pair.play(0);
        pair.pass();
        is.same("two moves ago, and three", pair.ago(1), 2);
        StoneBoard taken = Checks.drawn(".XO.", "X.XO", ".XO.", "....");
        taken.pass();
        taken.play(5);
        is.same("one move ago, and two", taken.ago(6), 1);
    }
}
