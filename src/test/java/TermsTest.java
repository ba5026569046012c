import java.util.Random;
import java.util.function.Consumer;
import java.util.function.Supplier;

/** The boundary cases of the document's first section and of its Terms, sentence by sentence. */
public final class TermsTest {
    private static final int BLACK = 1;
    private static final int WHITE = 2;
    private static final int LEAST = Integer.MIN_VALUE;
    private static final int GREATEST = Integer.MAX_VALUE;
    private static final Checks is = new Checks();

    public static void main(String[] args) {
        usedForManyCalls();
        usedForManyMovesTakenBack();
        points();
        neighbours();
        neighboursDoNotWrapAround();
        sides();
        strings();
        greatestStrings();
        breaths();
        everyStringHasBreath();
        movesThatTakeOthers();
        movesThatTakeTheirOwn();
        allowedOnlyBeforeTheEnd();
        allowedOnlyAtFreePoints();
        allowedOnlyForNewBoards();
        boardsOfLongAgo();
        boardsThatDifferAtOnePoint();
        turns();
        passes();
        ground();
        groundOverLongWays();
        regions();
        belonging();
        falling();
        fallingCorner();
        safety();
        throwingChangesNothing();
        firstNamedExceptionIsThrown();
        atMostThousandMoves();
        is.end("TermsTest");
    }

    private static void usedForManyCalls() {
        is.sentence("An object is used for at most 512 calls after it has been made");
        StoneBoard board = new StoneBoard(13);
        Reference reference = new Reference(13);
        for (int call = 1; call <= 510; call++) {
            int point = call * 37 % 169;
            String name = "call " + call + ", play(" + point + ")";
            if (reference.why(point) == 0) {
                is.same(name, board.play(point), reference.play(point));
            } else {
                is.badState(name, () -> board.play(point));
            }
        }
        is.same("call 511, moves()", board.moves(), reference.moves());
        is.same("call 512, allowed()", board.allowed(), reference.allowed());
    }

    private static void usedForManyMovesTakenBack() {
        is.sentence("An object is used for at most 512 calls: moves and taking back");
        StoneBoard board = new StoneBoard(13);
        for (int i = 0; i < 255; i++) {
            if (i % 2 == 0) {
                board.play(i / 2);
            } else {
                board.pass();
            }
        }
        for (int left = 254; left >= 0; left--) {
            is.same("back()", board.back(), left);
        }
        is.same("call 511, turn()", board.turn(), BLACK);
        is.same("call 512, allowed()", board.allowed(), 169);
    }

    private static void points() {
        is.sentence("POINTS are 0 .. n * n - 1, n * row + column");
        for (int n = 2; n <= 13; n++) {
            int last = n * n - 1;
            StoneBoard board = new StoneBoard(n);
            is.yes("put at the last point", board.put(last, WHITE));
            is.same("play at the first point", board.play(0), 0);
            is.same("at the first point", board.at(0), BLACK);
            is.same("at the last point", board.at(last), WHITE);
            is.same("why at the last point", board.why(last), 2);
            is.same("string at the last point", board.string(last, 2), last);
            is.same("owner at the last point", board.owner(last), WHITE);
            is.no("alive at the last point", board.alive(last));
            is.same("ago at the last point", board.ago(last), -1);
            for (int point : new int[] {LEAST, -1, n * n, n * n + 1, GREATEST}) {
                thereIsNoPoint(board, point);
            }
        }
        StoneBoard drawn = Checks.drawn("....", "..X.", "....", ".O..");
        is.same("row 1, column 2", drawn.at(6), BLACK);
        is.same("row 3, column 1", drawn.at(13), WHITE);
        is.same("row 2, column 1", drawn.at(9), 0);
    }

    private static void thereIsNoPoint(StoneBoard board, int point) {
        String call = board.size() + " rows, point " + point + ": ";
        is.noPoint(call + "at", () -> board.at(point));
        is.noPoint(call + "put", () -> board.put(point, BLACK));
        is.noPoint(call + "play", () -> board.play(point));
        is.noPoint(call + "why", () -> board.why(point));
        is.noPoint(call + "string", () -> board.string(point, 0));
        is.noPoint(call + "owner", () -> board.owner(point));
        is.noPoint(call + "alive", () -> board.alive(point));
        is.noPoint(call + "ago", () -> board.ago(point));
    }

    private static void neighbours() {
        is.sentence("NEIGHBOURS are the one above, below, to the left and to the right");
        for (int n = 2; n <= 13; n++) {
            for (int point = 0; point < n * n; point++) {
                int row = point / n;
                int column = point % n;
                int above = row > 0 ? 1 : 0;
                int left = column > 0 ? 1 : 0;
                int right = column < n - 1 ? 1 : 0;
                int below = row < n - 1 ? 1 : 0;
                StoneBoard board = new StoneBoard(n);
                board.put(point, BLACK);
                String name = n + " rows, a stone at " + point;
                is.same(name + ", breaths", board.string(point, 1), above + left + right + below);
                int first = above == 1 ? point - n : left == 1 ? point - 1 : point + 1;
                is.same(name + ", least breath", board.string(point, 3), first);
            }
        }
    }

    private static void neighboursDoNotWrapAround() {
        is.sentence("NEIGHBOURS of a point ..., as far as they are there");
        for (int n = 2; n <= 13; n++) {
            for (int row = 0; row < n - 1; row++) {
                StoneBoard board = new StoneBoard(n);
                board.put(n * row + n - 1, BLACK);
                board.put(n * row + n, BLACK);
                is.same(n + " rows, end and beginning of a row", board.strings(BLACK), 2);
            }
        }
        for (int n = 3; n <= 13; n++) {
            StoneBoard board = new StoneBoard(n);
            board.put(0, BLACK);
            board.put(n - 1, BLACK);
            board.put(n * n - n, BLACK);
            is.same(n + " rows, three corners", board.strings(BLACK), 3);
            for (int corner : new int[] {0, n - 1, n * n - n}) {
                is.same(n + " rows, breaths in a corner", board.string(corner, 1), 2);
            }
        }
        StoneBoard closing = Checks.drawn("O..", "X..", "O..");
        closing.first(WHITE);
        is.same("play(2) does not close point 3 in", closing.play(2), 0);
        closing.pass();
        is.same("play(4) does", closing.play(4), 1);
    }

    private static void sides() {
        is.sentence("SIDES are 1 and 2");
        StoneBoard board = new StoneBoard(3);
        for (int side : new int[] {LEAST, -1, 0, 3, GREATEST}) {
            is.badArgument("first(" + side + ")", () -> board.first(side));
            is.badArgument("taken(" + side + ")", () -> board.taken(side));
            is.badArgument("strings(" + side + ")", () -> board.strings(side));
            is.badArgument("safe(" + side + ")", () -> board.safe(side));
        }
        is.sentence("A point is free (0), or has a BLACK (1) or a WHITE (2) stone");
        for (int kind : new int[] {LEAST, -1, 3, GREATEST}) {
            is.badArgument("put(4, " + kind + ")", () -> board.put(4, kind));
            is.badArgument("ground(" + kind + ")", () -> board.ground(kind));
        }
        for (int kind = 0; kind <= 2; kind++) {
            is.yes("put(4, " + kind + ")", board.put(4, kind));
            is.same("at(4)", board.at(4), kind);
        }
    }

    private static void strings() {
        is.sentence("A STRING is a stone with all stones of its side that one comes to from it");
        StoneBoard alone = Checks.drawn("X..", "...", "...");
        is.same("stones of a stone alone", alone.string(0, 0), 1);
        StoneBoard corners = Checks.drawn("X.X", ".X.", "X.X");
        is.same("stones corner to corner are no string", corners.strings(BLACK), 5);
        is.same("the stone in the middle", corners.string(4, 0), 1);
        StoneBoard mixed = Checks.drawn("XOX", "...", "XOX");
        is.same("not over stones of the other side", mixed.strings(BLACK), 4);
        is.same("nor over free points", mixed.strings(WHITE), 2);
        StoneBoard bent = Checks.drawn("XXX", "..X", "XXX");
        is.same("a bent string", bent.string(0, 0), 7);
        is.same("the same string from its other end", bent.string(6, 2), 0);
    }

    private static void greatestStrings() {
        is.sentence("A STRING is ...: the longest and the greatest one");
        StoneBoard snake = new StoneBoard(13);
        for (int row = 0; row < 13; row++) {
            for (int column = 0; column < 13; column++) {
                boolean turning = column == (row % 4 == 1 ? 12 : 0);
                if (row % 2 == 0 || turning) {
                    snake.put(13 * row + column, WHITE);
                }
            }
        }
        is.same("strings of a snake", snake.strings(WHITE), 1);
        is.same("stones of a snake", snake.string(168, 0), 7 * 13 + 6);
        is.same("breaths of a snake", snake.string(84, 1), 6 * 12);
        is.same("least stone of a snake", snake.string(156, 2), 0);
        for (int n = 2; n <= 13; n++) {
            StoneBoard board = allButLast(n, BLACK);
            is.same(n + " rows, strings", board.strings(BLACK), 1);
            is.same(n + " rows, stones", board.string(0, 0), n * n - 1);
            is.same(n + " rows, breaths", board.string(0, 1), 1);
            is.same(n + " rows, least breath", board.string(0, 3), n * n - 1);
            is.same(n + " rows, ground", board.ground(BLACK), n * n);
            is.no(n + " rows, alive", board.alive(0));
        }
    }

    /** All points but the last one have stones of one side: the fullest board that there is. */
    private static StoneBoard allButLast(int n, int side) {
        StoneBoard board = new StoneBoard(n);
        for (int point = 0; point < n * n - 1; point++) {
            board.put(point, side);
        }
        return board;
    }

    private static void breaths() {
        is.sentence("Its BREATHS are the free points that are neighbours of its stones");
        StoneBoard board = Checks.drawn(
                "XXX.",
                "X.XO",
                ".XO.",
                "....");
        is.same("a point beside four stones counts once", board.string(0, 1), 3);
        is.same("a string at the same point has it, too", board.string(9, 1), 3);
        is.same("its least one", board.string(9, 3), 5);
        is.same("stones of the other side are none", board.string(7, 1), 2);
        is.same("points corner to corner are none", board.string(10, 1), 2);
    }

    private static void everyStringHasBreath() {
        is.sentence("Whenever a call begins, each string has one");
        for (int game = 0; game < 60; game++) {
            Random random = new Random(game);
            int n = 2 + game % 4;
            StoneBoard board = new StoneBoard(n);
            for (int i = 0; i < 60; i++) {
                int point = random.nextInt(n * n);
                if (i < 15) {
                    board.put(point, random.nextInt(3));
                } else if (board.why(point) == 0) {
                    board.play(point);
                }
            }
            for (int point = 0; point < n * n; point++) {
                int breaths = board.string(point, 1);
                is.yes("game " + game + ", point " + point, board.at(point) == 0 || breaths > 0);
            }
        }
    }

    private static void movesThatTakeOthers() {
        is.sentence("then strings of the other side without a breath are taken off, all at once");
        StoneBoard two = Checks.drawn("O.O", "X.X", "...");
        is.same("play(1) takes two strings", two.play(1), 2);
        is.looks("two strings taken", two, ".X.", "X.X", "...");
        StoneBoard three = Checks.drawn("O.O", "XOX", ".X.");
        is.same("play(1) takes three strings", three.play(1), 3);
        is.looks("three strings taken", three, ".X.", "X.X", ".X.");
        StoneBoard uneven = Checks.drawn("OO.O", "XXOX", "..X.", "....");
        is.same("play(2) takes strings of two stones, one and one", uneven.play(2), 4);
        is.looks("strings of two stones, one and one taken", uneven, "..X.", "XX.X", "..X.", "....");
        StoneBoard spared = Checks.drawn("O.O", "X..", "...");
        is.same("play(1) spares a string with a breath", spared.play(1), 1);
        is.looks("one taken, one spared", spared, ".XO", "X..", "...");
        for (int n = 2; n <= 13; n++) {
            StoneBoard whole = allButLast(n, BLACK);
            whole.first(WHITE);
            is.same(n + " rows, all stones but one", whole.play(n * n - 1), n * n - 1);
            is.same(n + " rows, the stone that took them stays", whole.at(n * n - 1), WHITE);
            is.same(n + " rows, taken", whole.taken(BLACK), n * n - 1);
            is.same(n + " rows, allowed", whole.allowed(), n * n - 1);
        }
        is.sentence("then (others taken off first), if that stone's string has no breath");
        StoneBoard inside = Checks.drawn(".OX", "OX.", "X..");
        is.same("play(0) has no breath but what it takes", inside.play(0), 2);
        is.looks("the stone inside stays", inside, "X.X", ".X.", "X..");
        StoneBoard full = Checks.drawn("XO", "X.");
        is.same("play(3) on two rows, the board full before the taking", full.play(3), 1);
        is.looks("the taken point is free", full, "X.", "XX");
    }

    private static void movesThatTakeTheirOwn() {
        is.sentence("then, if that stone's string has no breath, it is taken off");
        StoneBoard pair = Checks.drawn("X.O", "OO.", "...");
        is.same("play(1) loses two stones", pair.play(1), 2);
        is.looks("two stones lost", pair, "..O", "OO.", "...");
        is.same("taken of its own side", pair.taken(BLACK), 2);
        is.same("taken of the other side", pair.taken(WHITE), 0);
        StoneBoard apart = Checks.drawn("X.O.", "OO..", "..OX", "..XX");
        is.same("only that stone's string", apart.play(1), 2);
        is.looks("other strings of its side stay", apart, "..O.", "OO..", "..OX", "..XX");
        for (int n = 2; n <= 13; n++) {
            StoneBoard whole = allButLast(n, WHITE);
            whole.first(WHITE);
            is.same(n + " rows, all stones lost", whole.play(n * n - 1), n * n);
            is.same(n + " rows, taken", whole.taken(WHITE), n * n);
            is.same(n + " rows, the board is free", whole.ground(0), n * n);
            is.same(n + " rows, back", whole.back(), 0);
            is.same(n + " rows, the stones are there again", whole.string(0, 0), n * n - 1);
        }
    }

    private static void allowedOnlyBeforeTheEnd() {
        is.sentence("A move is ALLOWED if the game has not ENDED");
        StoneBoard board = Checks.drawn("X.", "..");
        board.pass();
        is.same("why(3) before the end", board.why(3), 0);
        board.pass();
        for (int point = 0; point < 4; point++) {
            int asked = point;
            is.same("why(" + point + ")", board.why(point), 1);
            is.badState("play(" + point + ")", () -> board.play(asked));
        }
        is.same("allowed()", board.allowed(), 0);
    }

    private static void allowedOnlyAtFreePoints() {
        is.sentence("A move is ALLOWED if ... the point is free");
        StoneBoard board = Checks.drawn("X.", ".O");
        is.same("why(0) at its own stone", board.why(0), 2);
        is.same("why(3) at the other side's stone", board.why(3), 2);
        is.badState("play(0) at its own stone", () -> board.play(0));
        is.badState("play(3) at the other side's stone", () -> board.play(3));
        is.same("allowed()", board.allowed(), 2);
        is.same("play(1) at a free point", board.play(1), 0);
    }

    private static void allowedOnlyForNewBoards() {
        is.sentence("... the one before the move with them");
        StoneBoard board = Checks.drawn(".O.", "O..", "...");
        is.same("why(0): a stone that takes itself off alone", board.why(0), 3);
        is.badState("play(0)", () -> board.play(0));
        is.sentence("... the board behind it is none of those that stood since the beginning");
        StoneBoard pair = Checks.drawn("..O", "OO.", "...");
        pair.play(0);
        pair.pass();
        is.same("why(1): the beginning, though the other side's turn comes", pair.why(1), 3);
        is.badState("play(1)", () -> pair.play(1));
        pair.play(8);
        pair.pass();
        is.same("why(1) with a stone more than at the beginning", pair.why(1), 0);
    }

    private static void boardsOfLongAgo() {
        is.sentence("... none of those that stood since the beginning: of long ago");
        StoneBoard board = new StoneBoard(13);
        for (int column = 0; column < 13; column++) {
            board.put(13 * 11 + column, WHITE);
        }
        int inside = 13 * 11;
        for (int point = 0; point < inside - 1; point++) {
            board.play(point);
            board.pass();
        }
        is.same("moves()", board.moves(), 2 * (inside - 1));
        is.same("why() of the beginning", board.why(inside - 1), 3);
        is.same("ago() of the beginning", board.ago(inside - 1), 2 * (inside - 1));
        is.badState("play() of the beginning", () -> board.play(inside - 1));
        is.same("allowed() in the last row alone", board.allowed(), 13);
        board.play(13 * 12);
        board.pass();
        is.same("why() with one stone more", board.why(inside - 1), 0);
        is.same("play() with one stone more", board.play(inside - 1), inside);
    }

    /** Black may take back when one point, wherever it is, has another stone than before. */
    private static void boardsThatDifferAtOnePoint() {
        is.sentence("... none of those that stood: boards are the same only if all points are");
        for (int point = 0; point < 169; point++) {
            int corner = point < 78 ? 13 * 9 + 8 : 0;
            StoneBoard black = knot(13, corner);
            is.same("why() at once", black.why(corner + 15), 3);
            black.play(point);
            black.pass();
            is.same("why() with a black stone at " + point, black.why(corner + 15), 0);
            StoneBoard white = knot(13, corner);
            white.pass();
            white.play(point);
            is.same("why() with a white stone at " + point, white.why(corner + 15), 0);
        }
    }

    /** White has taken a single stone, and black could take that one's place again at once. */
    private static StoneBoard knot(int n, int corner) {
        StoneBoard board = new StoneBoard(n);
        board.put(corner + 1, BLACK);
        board.put(corner + n, BLACK);
        board.put(corner + n + 2, BLACK);
        board.put(corner + 2 * n + 1, BLACK);
        board.put(corner + 2, WHITE);
        board.put(corner + n + 3, WHITE);
        board.put(corner + 2 * n + 2, WHITE);
        board.first(WHITE);
        board.play(corner + n + 1);
        return board;
    }

    private static void turns() {
        is.sentence("Sides move by turns, BLACK first, or who was told");
        for (int first = BLACK; first <= WHITE; first++) {
            StoneBoard board = new StoneBoard(3);
            board.first(first);
            for (int i = 0; i < 3; i++) {
                is.same("turn() of move " + i, board.turn(), i % 2 == 0 ? first : 3 - first);
                board.play(i);
                is.same("at(" + i + ")", board.at(i), i % 2 == 0 ? first : 3 - first);
            }
            board.pass();
            is.same("turn() behind a pass", board.turn(), first);
        }
        StoneBoard untold = new StoneBoard(3);
        untold.play(0);
        is.same("BLACK first", untold.at(0), BLACK);
    }

    private static void passes() {
        is.sentence("the game has ENDED behind two passes one behind the other");
        StoneBoard board = new StoneBoard(2);
        is.no("one pass", board.pass());
        is.same("a move between", board.play(0), 0);
        is.no("a pass behind it", board.pass());
        is.same("one more move", board.play(3), 0);
        is.no("one pass more", board.pass());
        is.same("why(1) behind three passes apart", board.why(1), 0);
        is.yes("the second pass on end", board.pass());
        is.same("why(1) behind it", board.why(1), 1);
        board.back();
        is.same("why(1) when it is taken back", board.why(1), 0);
        is.same("a move instead", board.play(1), 0);
        is.no("a pass behind that", board.pass());
        StoneBoard takenBack = new StoneBoard(2);
        takenBack.pass();
        takenBack.back();
        is.no("a pass behind one that was taken back", takenBack.pass());
        StoneBoard apart = new StoneBoard(2);
        apart.pass();
        apart.play(0);
        apart.back();
        is.yes("a pass behind a pass, a move between taken back", apart.pass());
    }

    private static void ground() {
        is.sentence("GROUND: the free points from which one comes to stones of that side alone");
        StoneBoard free = new StoneBoard(13);
        is.same("a free board is ground of none", free.ground(0), 169);
        free.put(84, WHITE);
        is.same("one stone has the whole board", free.ground(WHITE), 169);
        is.same("... and leaves none", free.ground(0), 0);
        free.put(0, BLACK);
        is.same("... until the other side has one", free.ground(WHITE), 1);
        is.same("... then the free points are ground of none", free.ground(0), 167);
        StoneBoard lastFree = Checks.drawn("XX", "O.");
        is.same("the last free point between both", lastFree.ground(0), 1);
        is.same("stones are ground of their side", lastFree.ground(BLACK), 2);
        StoneBoard parts = Checks.drawn(".XO.", "XXOO", "OO..", "....");
        is.same("a corner of black's", parts.owner(0), BLACK);
        is.same("a corner of white's", parts.owner(3), WHITE);
        is.same("free points that are beside white alone", parts.owner(15), WHITE);
        is.same("not corner to corner", parts.ground(BLACK), 4);
    }

    private static void groundOverLongWays() {
        is.sentence("GROUND: ... from which one comes, over free points alone: a long way");
        StoneBoard board = new StoneBoard(13);
        for (int row = 1; row < 13; row += 2) {
            for (int column = 0; column < 13; column++) {
                if (column != (row % 4 == 1 ? 12 : 0)) {
                    board.put(13 * row + column, BLACK);
                }
            }
        }
        is.same("a winding way of black's", board.ground(BLACK), 169);
        board.put(168, WHITE);
        is.same("white at its end", board.ground(0), 96);
        is.same("the other end of the way", board.owner(0), 0);
        is.same("black's stones", board.ground(BLACK), 72);
        is.same("white's stone", board.ground(WHITE), 1);
        board.put(13 * 11, BLACK);
        is.same("a stone that shuts the last row off", board.owner(0), BLACK);
        is.same("... and leaves that between both", board.ground(0), 12);
    }

    private static void regions() {
        is.sentence("REGIONS are the points without its stones");
        for (int n = 2; n <= 13; n++) {
            StoneBoard board = new StoneBoard(n);
            int stones = 0;
            for (int point = 0; point < n * n; point++) {
                if ((point / n + point % n) % 2 == 0) {
                    board.put(point, WHITE);
                    stones++;
                }
            }
            is.same(n + " rows, strings of one stone each", board.strings(WHITE), stones);
            is.yes(n + " rows, the corner has two regions", board.alive(0));
            is.same(n + " rows, all is safe", board.safe(WHITE), n * n);
            is.same(n + " rows, no region of black's counts", board.safe(BLACK), 0);
            board.put(1, WHITE);
            is.yes(n + " rows, one region less and one string less", n == 2 || board.alive(0));
        }
        StoneBoard joined = Checks.drawn(".X.", "XX.", "...");
        is.no("corner to corner is no way: the rest is one region", joined.alive(1));
        StoneBoard overStones = Checks.drawn(".X..", "XXO.", "..O.", "....");
        is.no("a region goes on over the other side's stones", overStones.alive(1));
    }

    private static void belonging() {
        is.sentence("A region BELONGS to a string if all of its points are neighbours of its stones");
        StoneBoard free = Checks.drawn("..X.X", "XXXXX", ".....", ".....", ".....");
        is.yes("two points, both beside the string", free.alive(2));
        StoneBoard far = Checks.drawn("...X.", "..XXX", "XXX..", ".....", ".....");
        is.no("a free point that is not beside it", far.alive(3));
        StoneBoard stone = Checks.drawn("O..X.", "..XXX", "XXX..", ".....", ".....");
        is.no("a stone of the other side that is not beside it", stone.alive(3));
        StoneBoard beside = Checks.drawn(".O.X.", "XXXXX", ".....", ".....", ".....");
        is.yes("a stone of the other side that is beside it", beside.alive(3));
        // in the middle a square whose points are beside both strings, but all beside neither
        StoneBoard square = Checks.drawn(
                ".XXX.....",
                ".X.X.....",
                ".XXX.....",
                ".X..XXX..",
                ".X..X.X..",
                "..XXXXX..",
                "..X.X....",
                "..XXX....",
                ".........");
        is.no("beside two strings, not all beside one", square.alive(1));
        is.yes("the other string has two of its own", square.alive(31));
        is.same("the square falls with the first string", square.safe(BLACK), 15 + 2);
        StoneBoard both = Checks.drawn("X.X", ".XX", "XX.");
        is.yes("one that belongs to two strings", both.alive(0));
        is.yes("... and to the other one", both.alive(4));
        StoneBoard twice = Checks.drawn(".XX", "XX.", "XXX");
        is.yes("two regions of one point", twice.alive(1));
        StoneBoard once = Checks.drawn("XXX", "X.X", "XXX");
        is.no("one region of one point", once.alive(0));
    }

    /** A row of strings, each with an eye in common with the next; the last one has but that. */
    private static StoneBoard chain(int side) {
        String[] rows = {
            "XX...........",
            "X.X..........",
            "XXXX.........",
            "X.X.X........",
            "XX.XXX.......",
            "....X.X......",
            ".....XXX.....",
            "......X.X....",
            ".......XXX...",
            "........X.XXX",
            ".........XXX.",
            "..........X.X",
            "...........XX"};
        for (int row = 0; row < rows.length; row++) {
            rows[row] = side == BLACK ? rows[row] : rows[row].replace('X', 'O');
        }
        return Checks.drawn(rows);
    }

    private static void falling() {
        is.sentence("again and again: all strings ... fall; then all standing regions ...");
        for (int side = BLACK; side <= WHITE; side++) {
            StoneBoard all = chain(side);
            is.same("strings of the chain", all.strings(side), 6);
            for (int point : new int[] {0, 56, 84, 112, 140, 168}) {
                is.yes("the last string has two regions, point " + point, all.alive(point));
            }
            is.same("all stands", all.safe(side), 169);
            all.put(13 * 9 + 12, 0);
            for (int point : new int[] {168, 140, 112, 84, 56}) {
                is.no("the last one falls, and all with it, point " + point, all.alive(point));
            }
            is.yes("but the first one, which has two of its own", all.alive(0));
            is.same("the first one and its two", all.safe(side), 12 + 2);
            all.put(13 * 4 + 1, 0);
            is.no("with one of its own it falls, too", all.alive(0));
            is.same("nothing stands", all.safe(side), 0);
        }
        is.sentence("all strings to which fewer than two standing regions belong fall");
        StoneBoard none = Checks.drawn("X....", ".....", ".....", ".....", ".....");
        is.no("none belongs", none.alive(0));
        StoneBoard one = Checks.drawn(".X...", "XX...", ".....", ".....", ".....");
        is.no("one belongs", one.alive(1));
        StoneBoard two = Checks.drawn(".X.X.", "XXXX.", ".....", ".....", ".....");
        is.yes("two belong", two.alive(1));
    }

    /** A corner beside two strings, one of which falls; the board turned and mirrored. */
    private static void fallingCorner() {
        is.sentence("then all standing regions with a point beside a string that fell");
        String[] rows = {
            ".XO...",
            "XO....",
            "XX....",
            ".X....",
            "XX....",
            ".X...."};
        for (int look = 0; look < 8; look++) {
            StoneBoard board = Checks.drawn(rows);
            is.same("look " + look + ", strings", board.strings(BLACK), 2);
            is.same("look " + look + ", the corner falls", board.safe(BLACK), 7 + 2);
            rows = look == 3 ? Checks.mirrored(rows) : Checks.turned(rows);
        }
    }

    private static void safety() {
        is.sentence("SAFE: ... regions only when a string stands");
        is.same("no string at all", new StoneBoard(2).safe(BLACK), 0);
        StoneBoard white = Checks.drawn("O.", ".O");
        is.same("no string of black's, a region beside none that fell", white.safe(BLACK), 0);
        is.same("all of white's", white.safe(WHITE), 4);
        StoneBoard fell = Checks.drawn("X.", "..");
        is.same("the only string fell", fell.safe(BLACK), 0);
        is.sentence("their points, and those of regions that stand, are SAFE");
        StoneBoard stands = Checks.drawn(".X.X.", "XXXX.", "...O.", ".OOO.", ".O.O.");
        is.same("a region that belongs to none, but stands", stands.safe(BLACK), 25);
        is.same("stones of the other side in it are not alive", stands.safe(WHITE), 0);
        StoneBoard falls = Checks.drawn(".X.X.", "XXXX.", "...O.", ".OOO.", "XO.O.");
        is.same("a region beside a string that fell", falls.safe(BLACK), 6 + 2);
    }

    private static StoneBoard begun() {
        StoneBoard board = Checks.drawn("XO.", ".O.", "...");
        board.first(WHITE);
        return board;
    }

    private static StoneBoard underWay() {
        StoneBoard board = begun();
        board.play(3);
        board.play(8);
        board.pass();
        return board;
    }

    private static StoneBoard ended() {
        StoneBoard board = underWay();
        board.pass();
        return board;
    }

    private static void throwingChangesNothing() {
        is.sentence("A call that throws changes nothing");
        for (Supplier<StoneBoard> maker : makers()) {
            thrown("at", maker, x -> x.at(9));
            thrown("put, point", maker, x -> x.put(-1, BLACK));
            thrown("put, side", maker, x -> x.put(8, 3));
            thrown("first", maker, x -> x.first(0));
            thrown("play", maker, x -> x.play(9));
            thrown("why", maker, x -> x.why(-1));
            thrown("move", maker, x -> x.move(x.moves()));
            thrown("move", maker, x -> x.move(-1));
            thrown("taken", maker, x -> x.taken(0));
            thrown("string, point", maker, x -> x.string(9, 0));
            thrown("string, what", maker, x -> x.string(1, 4));
            thrown("strings", maker, x -> x.strings(3));
            thrown("ground", maker, x -> x.ground(3));
            thrown("owner", maker, x -> x.owner(-1));
            thrown("alive", maker, x -> x.alive(9));
            thrown("safe", maker, x -> x.safe(0));
            thrown("ago", maker, x -> x.ago(-1));
            thrown("play, not free", maker, x -> x.play(1));
        }
        thrown("back", TermsTest::begun, StoneBoard::back);
        thrown("put too late", TermsTest::underWay, x -> x.put(6, BLACK));
        thrown("first too late", TermsTest::underWay, x -> x.first(BLACK));
        thrown("play, the board was there", TermsTest::underWay, x -> x.play(0));
        thrown("put behind the end", TermsTest::ended, x -> x.put(6, BLACK));
        thrown("first behind the end", TermsTest::ended, x -> x.first(BLACK));
        thrown("play behind the end", TermsTest::ended, x -> x.play(6));
        thrown("pass behind the end", TermsTest::ended, StoneBoard::pass);
    }

    private static Supplier<StoneBoard>[] makers() {
        @SuppressWarnings("unchecked")
        Supplier<StoneBoard>[] made = (Supplier<StoneBoard>[]) new Supplier<?>[] {
            (Supplier<StoneBoard>) TermsTest::begun,
            (Supplier<StoneBoard>) TermsTest::underWay,
            (Supplier<StoneBoard>) TermsTest::ended};
        return made;
    }

    private static void thrown(String what, Supplier<StoneBoard> maker, Consumer<StoneBoard> call) {
        StoneBoard board = maker.get();
        boolean threw = false;
        try {
            call.accept(board);
        } catch (RuntimeException e) {
            threw = true;
        }
        is.yes(what + " throws", threw);
        is.same("all behind " + what, Checks.story(board), Checks.story(maker.get()));
    }

    private static void firstNamedExceptionIsThrown() {
        is.sentence("of several exceptions the one named first is thrown");
        StoneBoard board = underWay();
        is.noPoint("put: no point, no side, too late", () -> board.put(9, 3));
        is.noPoint("put: no point, too late", () -> board.put(-1, 0));
        is.badArgument("put: no side, too late", () -> board.put(0, 3));
        is.badState("put: too late", () -> board.put(0, 0));
        is.badArgument("first: no side, too late", () -> board.first(3));
        is.badState("first: too late", () -> board.first(WHITE));
        is.noPoint("string: no point, no what", () -> board.string(9, 4));
        is.badArgument("string: no what", () -> board.string(8, 4));
        StoneBoard over = ended();
        is.noPoint("play: no point, the game has ended", () -> over.play(9));
        is.badState("play: the game has ended", () -> over.play(6));
        StoneBoard begun = begun();
        is.noPoint("put: no point, no side", () -> begun.put(9, 3));
        is.badArgument("put: no side where there would be no breath", () -> begun.put(3, 3));
    }

    /** Out of reach within 512 calls, but the language asks that no call throws by itself. */
    private static void atMostThousandMoves() {
        is.sentence("IllegalStateException: ... there are 1,000 moves and passes");
        StoneBoard board = new StoneBoard(13);
        for (int i = 0; i < 100_000 && board.moves() < 1000; i++) {
            int point = i * 37 % 169;
            if (board.why(point) == 0) {
                board.play(point);
            } else if (board.allowed() == 0) {
                board.pass();
            }
        }
        is.same("moves() at the limit", board.moves(), 1000);
        is.badState("play() behind 1,000 moves", () -> playAnywhere(board));
        is.badState("pass() behind 1,000 moves", board::pass);
        is.same("moves() behind both", board.moves(), 1000);
        is.same("back() from the limit", board.back(), 999);
        is.no("pass() behind 999 moves", board.pass());
    }

    private static void playAnywhere(StoneBoard board) {
        int point = 0;
        while (board.why(point) != 0) {
            point++;
        }
        board.play(point);
    }
}
