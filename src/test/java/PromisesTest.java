/** Each promise of the document by its number: ordinary inputs, edges, and wrong inputs. */
public final class PromisesTest {
    private static final int BLACK = 1;
    private static final int WHITE = 2;
    private static final Checks is = new Checks();

    public static void main(String[] args) {
        promise1NewObject();
        promise2Size();
        promise3At();
        promise4Put();
        promise4PutTooLate();
        promise5First();
        promise6Turn();
        promise7Play();
        promise7PlayTakesSeveralStrings();
        promise7PlayTakesOwnString();
        promise7PlayRefused();
        promise8Why();
        promise8WhyBoardBefore();
        promise9Allowed();
        promise10Pass();
        promise11Back();
        promise11BackForgetsBoards();
        promise12Moves();
        promise13Move();
        promise14Taken();
        promise15String();
        promise16Strings();
        promise17Ground();
        promise18Owner();
        promise19Alive();
        promise19FallingStrings();
        promise20Safe();
        promise21Ago();
        throwingCallsChangeNothing();
        is.end("PromisesTest");
    }

    private static void promise1NewObject() {
        int[] asked = {Integer.MIN_VALUE, -1, 0, 1, 2, 3, 9, 12, 13, 14, 99, Integer.MAX_VALUE};
        int[] due = {2, 2, 2, 2, 2, 3, 9, 12, 13, 13, 13, 13};
        for (int i = 0; i < asked.length; i++) {
            StoneBoard board = new StoneBoard(asked[i]);
            String name = "new StoneBoard(" + asked[i] + ")";
            is.same(name + ".size()", board.size(), due[i]);
            int free = 0;
            for (int point = 0; point < due[i] * due[i]; point++) {
                free += board.at(point) == 0 ? 1 : 0;
            }
            is.same(name + " free points", free, due[i] * due[i]);
            is.noPoint(name + ".at(n * n)", () -> board.at(board.size() * board.size()));
            is.same(name + ".turn()", board.turn(), BLACK);
            is.same(name + ".moves()", board.moves(), 0);
            is.same(name + ".taken(1)", board.taken(BLACK), 0);
            is.same(name + ".taken(2)", board.taken(WHITE), 0);
        }
    }

    private static void promise2Size() {
        StoneBoard board = new StoneBoard(5);
        board.play(0);
        is.same("size() behind a move", board.size(), 5);
    }

    private static void promise3At() {
        StoneBoard board = Checks.drawn("X..", "...", "..O");
        is.same("at(0)", board.at(0), BLACK);
        is.same("at(4)", board.at(4), 0);
        is.same("at(8)", board.at(8), WHITE);
        is.noPoint("at(9)", () -> board.at(9));
        is.noPoint("at(-1)", () -> board.at(-1));
        is.noPoint("at(least int)", () -> board.at(Integer.MIN_VALUE));
        is.noPoint("at(greatest int)", () -> board.at(Integer.MAX_VALUE));
    }

    private static void promise4Put() {
        StoneBoard board = new StoneBoard(2);
        is.yes("put(0, 1)", board.put(0, BLACK));
        is.yes("put(1, 1)", board.put(1, BLACK));
        is.yes("put(2, 1)", board.put(2, BLACK));
        is.no("put(3, 1) fills the board", board.put(3, BLACK));
        is.no("put(3, 2) closes black in", board.put(3, WHITE));
        is.looks("behind a put that is refused", board, "XX", "X.");
        is.same("breaths behind a put that is refused", board.string(0, 1), 1);
        is.same("ground behind a put that is refused", board.ground(BLACK), 4);
        is.yes("put over a stone", board.put(1, WHITE));
        is.looks("behind put over a stone", board, "XO", "X.");
        is.yes("put of what is there", board.put(1, WHITE));
        is.yes("put(1, 0)", board.put(1, 0));
        is.yes("put(1, 0) of a free point", board.put(1, 0));
        is.looks("behind put(1, 0)", board, "X.", "X.");
        is.same("moves() behind put", board.moves(), 0);
        is.same("taken(1) behind put", board.taken(BLACK), 0);

        StoneBoard split = Checks.drawn("XXX", ".OO", "...");
        is.no("put over a stone cuts a string off its breath", split.put(1, WHITE));
        is.looks("behind the cut that is refused", split, "XXX", ".OO", "...");

        StoneBoard eye = Checks.drawn(".X.", "XX.", "...");
        is.no("put of a stone without a breath", eye.put(0, WHITE));

        is.noPoint("put(-1, 1)", () -> board.put(-1, BLACK));
        is.noPoint("put(4, 1)", () -> board.put(4, BLACK));
        is.noPoint("put(4, 9): the point comes first", () -> board.put(4, 9));
        is.badArgument("put(0, 3)", () -> board.put(0, 3));
        is.badArgument("put(0, -1)", () -> board.put(0, -1));
    }

    private static void promise4PutTooLate() {
        StoneBoard board = new StoneBoard(3);
        board.play(4);
        is.badState("put behind a move", () -> board.put(0, BLACK));
        is.badState("put of what is there behind a move", () -> board.put(4, BLACK));
        is.noPoint("put(9, 9) behind a move", () -> board.put(9, 9));
        is.badArgument("put(0, 9) behind a move", () -> board.put(0, 9));
        board.back();
        is.yes("put behind a move that was taken back", board.put(0, WHITE));
        board.pass();
        is.badState("put behind a pass", () -> board.put(0, 0));
        board.back();
        is.yes("put behind a pass that was taken back", board.put(0, 0));

        // an earlier beginning is no board that stood
        board.put(0, BLACK);
        board.put(0, 0);
        is.same("why(0) though put() made that board once", board.why(0), 0);
        is.same("ago(0) though put() made that board once", board.ago(0), -1);
    }

    private static void promise5First() {
        StoneBoard board = new StoneBoard(3);
        board.first(WHITE);
        is.same("turn() behind first(2)", board.turn(), WHITE);
        board.first(BLACK);
        is.same("turn() behind first(1)", board.turn(), BLACK);
        board.first(WHITE);
        board.put(8, BLACK);
        board.play(4);
        is.same("at(4) played by who was told", board.at(4), WHITE);
        is.same("turn() behind white's move", board.turn(), BLACK);
        is.badState("first(1) behind a move", () -> board.first(BLACK));
        is.badArgument("first(0) behind a move", () -> board.first(0));
        board.back();
        is.same("turn() behind back()", board.turn(), WHITE);
        board.first(BLACK);
        is.same("turn() behind back() and first(1)", board.turn(), BLACK);
        board.pass();
        is.badState("first(2) behind a pass", () -> board.first(WHITE));
        is.badArgument("first(3)", () -> board.first(3));
        is.badArgument("first(-1)", () -> board.first(-1));
        is.same("turn() behind calls that threw", board.turn(), WHITE);
    }

    private static void promise6Turn() {
        StoneBoard board = new StoneBoard(4);
        is.same("turn() at first", board.turn(), BLACK);
        board.play(0);
        is.same("turn() behind a move", board.turn(), WHITE);
        board.pass();
        is.same("turn() behind a pass", board.turn(), BLACK);
        board.pass();
        is.same("turn() when the game has ended", board.turn(), WHITE);
        board.back();
        is.same("turn() behind back()", board.turn(), BLACK);
    }

    private static void promise7Play() {
        StoneBoard board = new StoneBoard(3);
        is.same("play(4)", board.play(4), 0);
        is.same("play(0), the first point", board.play(0), 0);
        is.same("play(8), the last point", board.play(8), 0);
        is.looks("behind three moves", board, "O..", ".X.", "..X");

        StoneBoard corner = Checks.drawn("OX.", "...", "...");
        is.same("play(3) takes the corner", corner.play(3), 1);
        is.looks("behind taking the corner", corner, ".X.", "X..", "...");

        StoneBoard noWrap = Checks.drawn("..X", "X..", "...");
        noWrap.first(WHITE);
        is.same("a row's end is no neighbour of the next row's beginning",
                noWrap.string(2, 0), 1);
        is.same("breaths at a row's end", noWrap.string(2, 1), 2);
    }

    private static void promise7PlayTakesSeveralStrings() {
        StoneBoard board = Checks.drawn(
                ".XOX.",
                "XO.OX",
                ".XOX.",
                "..X..",
                ".....");
        is.same("play(7) takes four strings at once", board.play(7), 4);
        is.looks("behind taking four strings", board, ".X.X.", "X.X.X", ".X.X.", "..X..", ".....");
        is.same("taken(2) of four strings", board.taken(WHITE), 4);

        StoneBoard twice = Checks.drawn(
                ".OX.",
                "OOX.",
                "XX..",
                "....");
        is.same("play(0) touches one string twice and takes it once", twice.play(0), 3);
        is.looks("behind taking a string touched twice", twice, "X.X.", "..X.", "XX..", "....");

        // the stone has no breath until what it closes in is gone
        StoneBoard inside = Checks.drawn(
                ".OX",
                "OOX",
                "XX.");
        is.same("play(0) into a closed corner that takes", inside.play(0), 3);
        is.looks("behind taking from inside", inside, "X.X", "..X", "XX.");
    }

    private static void promise7PlayTakesOwnString() {
        StoneBoard board = Checks.drawn(
                "X.O.",
                "OO..",
                "....",
                "...X");
        is.same("play(1) takes its own string off", board.play(1), 2);
        is.looks("behind taking its own string", board, "..O.", "OO..", "....", "...X");
        is.same("taken(1) by its own move", board.taken(BLACK), 2);
        is.same("taken(2) by black's own move", board.taken(WHITE), 0);
        is.same("turn() behind taking its own string", board.turn(), WHITE);

        StoneBoard joins = Checks.drawn(
                "X.XO",
                "OXO.",
                ".O..",
                "....");
        is.same("play(1) joins three strings and takes all off", joins.play(1), 4);
        is.looks("behind joining and losing", joins, "...O", "O.O.", ".O..", "....");

        StoneBoard breathes = Checks.drawn(
                "X.X.",
                "OOO.",
                "....",
                "....");
        is.same("play(1) joins a string with a breath", breathes.play(1), 0);
        is.looks("behind joining", breathes, "XXX.", "OOO.", "....", "....");
    }

    private static void promise7PlayRefused() {
        StoneBoard board = Checks.drawn(".O.", "O..", "...");
        is.badState("play(0): its own single stone gone, the board as it is", () -> board.play(0));
        is.badState("play(1), not free", () -> board.play(1));
        is.noPoint("play(9)", () -> board.play(9));
        is.noPoint("play(-1)", () -> board.play(-1));
        is.same("moves() behind moves that were refused", board.moves(), 0);
        is.looks("behind moves that were refused", board, ".O.", "O..", "...");
        board.pass();
        board.pass();
        is.badState("play(8), the game has ended", () -> board.play(8));
        is.noPoint("play(9), the game has ended", () -> board.play(9));
    }

    /** White takes a single stone at once; black may not take back at once. */
    private static StoneBoard knot() {
        StoneBoard board = Checks.drawn(
                ".XO.",
                "X.XO",
                ".XO.",
                "....");
        board.first(WHITE);
        board.play(5);
        return board;
    }

    private static void promise8Why() {
        StoneBoard board = Checks.drawn(".O.", "O..", "...");
        is.same("why(8)", board.why(8), 0);
        is.same("why(1)", board.why(1), 2);
        is.same("why(0)", board.why(0), 3);
        is.noPoint("why(9)", () -> board.why(9));
        is.noPoint("why(-1)", () -> board.why(-1));
        board.pass();
        is.same("why(0) for white", board.why(0), 0);
        board.pass();
        is.same("why(8) when the game has ended", board.why(8), 1);
        is.same("why(1) when the game has ended", board.why(1), 1);
        is.same("why(0) when the game has ended", board.why(0), 1);
        is.noPoint("why(9) when the game has ended", () -> board.why(9));
        is.looks("behind why()", board, ".O.", "O..", "...");
        is.same("moves() behind why()", board.moves(), 2);
    }

    private static void promise8WhyBoardBefore() {
        StoneBoard board = knot();
        is.looks("behind white's taking", board, ".XO.", "XO.O", ".XO.", "....");
        is.same("why(6): the board before the latest move", board.why(6), 3);
        is.badState("play(6): the board before the latest move", () -> board.play(6));
        board.play(15);
        board.play(12);
        is.same("why(6) when other moves were made", board.why(6), 0);
        is.same("play(6) when other moves were made", board.play(6), 1);
        is.same("why(5): the board two stones on", board.why(5), 3);

        StoneBoard cycle = longCycle();
        is.same("why(0): a board of five moves ago", cycle.why(0), 3);
        is.badState("play(0): a board of five moves ago", () -> cycle.play(0));

        StoneBoard other = knot();
        other.pass();
        other.play(12);
        other.back();
        other.back();
        is.same("why(6) behind moves that were taken back", other.why(6), 3);

        // a stone that takes itself off leaves the same board: whose turn it is does not matter
        StoneBoard passed = Checks.drawn(".O.", "O..", "...");
        passed.pass();
        passed.play(8);
        is.same("why(0) behind a pass", passed.why(0), 3);
    }

    /** Black's stone at 0 was there alone five moves ago, and would be again. */
    private static StoneBoard longCycle() {
        StoneBoard board = new StoneBoard(2);
        board.play(0);
        board.play(1);
        board.play(2);
        is.same("white takes two on two rows", board.play(3), 2);
        board.play(0);
        is.same("white takes one on two rows", board.play(2), 1);
        is.looks("the board before it comes again", board, ".O", "OO");
        return board;
    }

    private static void promise9Allowed() {
        is.same("allowed() on a new board", new StoneBoard(2).allowed(), 4);
        is.same("allowed() on the greatest board", new StoneBoard(13).allowed(), 169);
        StoneBoard board = Checks.drawn(".O.", "O..", "...");
        is.same("allowed() without its own loss", board.allowed(), 6);
        board.first(WHITE);
        is.same("allowed() for white", board.allowed(), 7);
        board.pass();
        board.pass();
        is.same("allowed() when the game has ended", board.allowed(), 0);
        board.back();
        is.same("allowed() behind back()", board.allowed(), 6);
        // of nine free points 6 brings a board again, and 3 takes the stone itself off
        is.same("allowed() with a board that was there before", knot().allowed(), 7);
    }

    private static void promise10Pass() {
        StoneBoard board = new StoneBoard(2);
        is.no("pass()", board.pass());
        is.same("play() behind a pass", board.play(0), 0);
        is.no("pass() behind a move", board.pass());
        is.yes("pass() behind a pass", board.pass());
        is.badState("pass() when the game has ended", board::pass);
        is.same("moves() behind passes", board.moves(), 4);
        is.same("back() from the end", board.back(), 3);
        is.same("why(3) behind back() from the end", board.why(3), 0);
        is.yes("pass() again", board.pass());

        StoneBoard fresh = new StoneBoard(2);
        is.no("the first pass", fresh.pass());
        is.yes("the second pass", fresh.pass());
        is.same("moves() behind two passes", fresh.moves(), 2);
    }

    private static void promise11Back() {
        StoneBoard board = Checks.drawn("OX.", "...", "...");
        is.badState("back() at the beginning", board::back);
        board.play(3);
        board.play(8);
        board.pass();
        is.same("back() of a pass", board.back(), 2);
        is.same("turn() behind back() of a pass", board.turn(), BLACK);
        is.looks("behind back() of a pass", board, ".X.", "X..", "..O");
        is.same("back() of a move", board.back(), 1);
        is.same("back() of a move that took", board.back(), 0);
        is.looks("behind back() of a move that took", board, "OX.", "...", "...");
        is.same("taken(2) behind back()", board.taken(WHITE), 0);
        is.same("string(0, 1) behind back()", board.string(0, 1), 1);
        is.badState("back() at the beginning again", board::back);
        is.same("play(3) again", board.play(3), 1);

        StoneBoard own = Checks.drawn("X.O.", "OO..", "....", "...X");
        own.play(1);
        own.back();
        is.looks("behind back() of its own loss", own, "X.O.", "OO..", "....", "...X");
        is.same("taken(1) behind back() of its own loss", own.taken(BLACK), 0);
    }

    private static void promise11BackForgetsBoards() {
        StoneBoard board = new StoneBoard(3);
        board.play(4);
        board.back();
        is.same("why(4) of a board that was taken back", board.why(4), 0);
        is.same("ago(4) of a board that was taken back", board.ago(4), -1);
        StoneBoard tied = knot();
        tied.play(15);
        tied.play(12);
        tied.play(6);
        is.same("why(5) before back()", tied.why(5), 3);
        tied.back();
        is.same("why(6) behind back()", tied.why(6), 0);
        tied.back();
        tied.back();
        is.same("why(6) behind back() to the knot", tied.why(6), 3);
        tied.back();
        is.same("why(5) at the beginning", tied.why(5), 0);
    }

    private static void promise12Moves() {
        StoneBoard board = new StoneBoard(3);
        board.play(0);
        board.pass();
        board.play(1);
        is.same("moves() with a pass", board.moves(), 3);
        is.badState("play(1) again", () -> board.play(1));
        is.same("moves() behind a move that was refused", board.moves(), 3);
        board.back();
        is.same("moves() behind back()", board.moves(), 2);
    }

    private static void promise13Move() {
        StoneBoard board = new StoneBoard(3);
        is.noPoint("move(0) without a move", () -> board.move(0));
        board.play(8);
        board.pass();
        board.play(0);
        is.same("move(0)", board.move(0), 8);
        is.same("move(1)", board.move(1), -1);
        is.same("move(2)", board.move(2), 0);
        is.noPoint("move(3)", () -> board.move(3));
        is.noPoint("move(-1)", () -> board.move(-1));
        is.noPoint("move(greatest int)", () -> board.move(Integer.MAX_VALUE));
        board.back();
        is.noPoint("move(2) behind back()", () -> board.move(2));
        board.play(5);
        is.same("move(2) behind back() and another move", board.move(2), 5);
    }

    private static void promise14Taken() {
        StoneBoard board = new StoneBoard(2);
        board.play(0);
        board.play(1);
        board.play(2);
        board.play(3);
        is.same("taken(1)", board.taken(BLACK), 2);
        is.same("taken(2)", board.taken(WHITE), 0);
        board.play(0);
        board.play(2);
        is.same("taken(1) of two moves", board.taken(BLACK), 3);
        board.pass();
        is.same("taken(1) behind a pass", board.taken(BLACK), 3);
        board.back();
        board.back();
        is.same("taken(1) behind back()", board.taken(BLACK), 2);
        is.badArgument("taken(0)", () -> board.taken(0));
        is.badArgument("taken(3)", () -> board.taken(3));
    }

    private static void promise15String() {
        StoneBoard board = Checks.drawn(
                ".X.OO",
                ".XX.O",
                "..X..",
                "X....",
                "....O");
        int[] black = {4, 7, 1, 0};
        int[] white = {3, 3, 3, 2};
        int[] last = {1, 2, 24, 19};
        for (int what = 0; what < 4; what++) {
            is.same("string(1, " + what + ")", board.string(1, what), black[what]);
            is.same("string(12, " + what + ")", board.string(12, what), black[what]);
            is.same("string(9, " + what + ")", board.string(9, what), white[what]);
            is.same("string(24, " + what + ")", board.string(24, what), last[what]);
            is.same("string(0, " + what + ")", board.string(0, what), -1);
        }
        is.noPoint("string(25, 0)", () -> board.string(25, 0));
        is.noPoint("string(-1, 0)", () -> board.string(-1, 0));
        is.noPoint("string(25, 9): the point comes first", () -> board.string(25, 9));
        is.badArgument("string(1, 4)", () -> board.string(1, 4));
        is.badArgument("string(1, -1)", () -> board.string(1, -1));
        is.badArgument("string(0, 4) of a free point", () -> board.string(0, 4));

        StoneBoard bay = Checks.drawn("XXX", "X.X", "...");
        is.same("a breath beside three stones counts once", bay.string(0, 1), 3);
        is.same("the least breath is inside", bay.string(5, 3), 4);
    }

    private static void promise16Strings() {
        StoneBoard board = Checks.drawn("X.X", ".O.", "XX.");
        is.same("strings(1)", board.strings(BLACK), 3);
        is.same("strings(2)", board.strings(WHITE), 1);
        StoneBoard eyes = Checks.drawn(".X.", "XXX", "...");
        is.same("strings(1): black's free ground is no string", eyes.strings(BLACK), 1);
        is.same("strings(1) of a free board", new StoneBoard(4).strings(BLACK), 0);
        is.same("strings(2) of a free board", new StoneBoard(4).strings(WHITE), 0);
        is.badArgument("strings(0)", () -> board.strings(0));
        is.badArgument("strings(3)", () -> board.strings(3));
        board.play(1);
        is.same("strings(1) behind joining", board.strings(BLACK), 2);
    }

    private static void promise17Ground() {
        StoneBoard board = Checks.drawn(
                ".X.O.",
                "XX.OO",
                ".....",
                "XXXXX",
                ".....");
        is.same("ground(1)", board.ground(BLACK), 8 + 1 + 5);
        is.same("ground(2)", board.ground(WHITE), 3 + 1);
        is.same("ground(0)", board.ground(0), 7);
        StoneBoard free = new StoneBoard(3);
        is.same("ground(0) of a free board", free.ground(0), 9);
        is.same("ground(1) of a free board", free.ground(BLACK), 0);
        is.same("ground(2) of a free board", free.ground(WHITE), 0);
        free.play(0);
        is.same("ground(1) with one stone", free.ground(BLACK), 9);
        is.badArgument("ground(-1)", () -> board.ground(-1));
        is.badArgument("ground(3)", () -> board.ground(3));
    }

    private static void promise18Owner() {
        StoneBoard board = Checks.drawn(
                ".X.O.",
                "XX.OO",
                ".....",
                "XXXXX",
                ".....");
        is.same("owner(0), closed in by black", board.owner(0), BLACK);
        is.same("owner(1), a black stone", board.owner(1), BLACK);
        is.same("owner(2), between both", board.owner(2), 0);
        is.same("owner(3), a white stone", board.owner(3), WHITE);
        is.same("owner(4), closed in by white", board.owner(4), WHITE);
        is.same("owner(14), far from white", board.owner(14), 0);
        is.same("owner(24)", board.owner(24), BLACK);
        is.same("owner(0) of a free board", new StoneBoard(2).owner(0), 0);
        is.noPoint("owner(25)", () -> board.owner(25));
        is.noPoint("owner(-1)", () -> board.owner(-1));
    }

    private static void promise19Alive() {
        StoneBoard two = Checks.drawn(
                ".X.XO",
                "XXXXO",
                "OOOOO",
                ".....",
                ".....");
        is.yes("alive(1) with two regions", two.alive(1));
        is.yes("alive(8) with two regions", two.alive(8));
        is.no("alive(0), free", two.alive(0));
        is.no("alive(4): white has one region of its own", two.alive(4));
        is.noPoint("alive(25)", () -> two.alive(25));
        is.noPoint("alive(-1)", () -> two.alive(-1));

        StoneBoard one = Checks.drawn(
                ".X...",
                "XX...",
                ".....",
                ".....",
                ".....");
        is.no("alive(1) with one region of its own", one.alive(1));

        StoneBoard wide = Checks.drawn(
                "...X.X",
                ".O.XXX",
                "...X..",
                "XXXX..",
                "......",
                "......");
        is.no("alive(3): a region with points off the string", wide.alive(3));

        // all free points of the ring are beside the string, but the white stone is not
        StoneBoard ring = Checks.drawn(
                "XXXXX.X",
                "X...XXX",
                "X.O.X..",
                "X...X..",
                "XXXXX..",
                ".......",
                ".......");
        is.no("alive(0): a stone of the other side off the string", ring.alive(0));

        StoneBoard held = Checks.drawn(
                ".OX.X.",
                "XXXXX.",
                "......",
                "......",
                "......",
                "......");
        is.yes("alive(2): a stone of the other side beside the string", held.alive(2));
        is.no("alive(1): the stone inside", held.alive(1));
    }

    private static void promise19FallingStrings() {
        StoneBoard shared = Checks.drawn(
                "X.X.",
                ".XX.",
                "XX..",
                "....");
        is.yes("alive(0): both of its regions belong to another string too", shared.alive(0));
        is.yes("alive(9): the string round the corner", shared.alive(9));
        is.same("safe(1) of both", shared.safe(BLACK), 16);

        // string 2 has but one region; that falls with it, and leaves the others one each
        StoneBoard fallen = Checks.drawn(
                "X.XOO",
                ".XO..",
                "XXO..",
                "OO...",
                ".....");
        is.no("alive(2): one region", fallen.alive(2));
        is.no("alive(0): its region fell", fallen.alive(0));
        is.no("alive(6): its region fell", fallen.alive(6));
        is.same("safe(1) when all fell", fallen.safe(BLACK), 0);

        // a third region keeps the string in the middle up for a round more, not for good
        StoneBoard third = Checks.drawn(
                "X.XOO",
                ".XO..",
                "XXO..",
                ".XO..",
                "XXO..");
        is.no("alive(0) with a third region beside another string", third.alive(0));
        is.no("alive(6) with a third region", third.alive(6));

        // a fourth one saves it, and it alone
        StoneBoard fourth = Checks.drawn(
                "X.XOO.",
                ".XO...",
                "XXO...",
                ".XO...",
                "XXO...",
                ".XO...");
        is.no("alive(0) with a fourth region beside another string", fourth.alive(0));
        is.no("alive(2) with a fourth region beside another string", fourth.alive(2));
        is.yes("alive(7) with a fourth region", fourth.alive(7));
        is.same("safe(1): one string and its two regions", fourth.safe(BLACK), 7 + 2);
    }

    private static void promise20Safe() {
        StoneBoard two = Checks.drawn(
                ".X.XO",
                "XXXXO",
                "OOOOO",
                ".....",
                ".....");
        is.same("safe(1): all regions stand", two.safe(BLACK), 25);
        is.same("safe(2): no string stands", two.safe(WHITE), 0);
        is.same("safe(1) of a free board", new StoneBoard(3).safe(BLACK), 0);
        is.same("safe(2) of a free board", new StoneBoard(3).safe(WHITE), 0);

        StoneBoard part = Checks.drawn(
                ".X.XO",
                "XXXXO",
                "OOOOO",
                ".....",
                "..X..");
        is.same("safe(1) with a string that fell", part.safe(BLACK), 6 + 2);
        is.badArgument("safe(0)", () -> two.safe(0));
        is.badArgument("safe(3)", () -> two.safe(3));
    }

    private static void promise21Ago() {
        StoneBoard board = knot();
        is.same("ago(6), before the latest move", board.ago(6), 1);
        is.same("ago(15), never", board.ago(15), -1);
        is.same("ago(5), not free", board.ago(5), -1);
        is.noPoint("ago(16)", () -> board.ago(16));
        is.noPoint("ago(-1)", () -> board.ago(-1));
        board.pass();
        is.same("turn() behind the pass", board.turn(), WHITE);
        is.same("ago(6) for the other side", board.ago(6), -1);
        board.pass();
        is.same("ago(6) counts passes, the game having ended", board.ago(6), 3);
        is.looks("behind ago()", board, ".XO.", "XO.O", ".XO.", "....");

        StoneBoard now = Checks.drawn(".O.", "O..", "...");
        is.same("ago(0), as it is now", now.ago(0), 0);
        is.same("ago(1), not free", now.ago(1), -1);
        is.same("ago(0), a board of five moves ago", longCycle().ago(0), 5);
        now.play(8);
        now.pass();
        is.same("ago(8), not free, though the stone there is black's own", now.ago(8), -1);
        is.same("ago(0) of several the least", now.ago(0), 0);

        // the board before the taking stood twice, a pass between
        StoneBoard several = Checks.drawn(
                ".XO.",
                "X.XO",
                ".XO.",
                "....");
        several.pass();
        several.play(5);
        is.same("ago(6), stood before and behind a pass", several.ago(6), 1);
    }

    private static void throwingCallsChangeNothing() {
        StoneBoard board = knot();
        is.badState("play(6)", () -> board.play(6));
        is.badState("put(0, 0)", () -> board.put(0, 0));
        is.badState("first(1)", () -> board.first(BLACK));
        is.same("moves() behind them", board.moves(), 1);
        is.same("turn() behind them", board.turn(), BLACK);
        is.same("taken(1) behind them", board.taken(BLACK), 1);
        is.same("taken(2) behind them", board.taken(WHITE), 0);
        is.looks("the board behind them", board, ".XO.", "XO.O", ".XO.", "....");
    }
}
