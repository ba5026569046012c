import java.util.Arrays;

/**
 * The board game of stones that take one another by closing them in: moves under the rule that no
 * board may come again, taking back, counting of ground, and the strings that live whatever comes.
 */
public final class StoneBoard {
    private static final int LEAST_SIZE = 2;
    private static final int GREATEST_SIZE = 13;
    private static final int MOST_MOVES = 1000;

    private static final int FREE = 0;
    private static final int BLACK = 1;
    private static final int WHITE = 2;

    private static final int NONE = -1;
    private static final int PASSED = -1;
    private static final int BEGINNING = -2;

    private static final int ALLOWED = 0;
    private static final int GAME_ENDED = 1;
    private static final int NOT_FREE = 2;
    private static final int CAME_BEFORE = 3;

    private static final int STONE_COUNT = 0;
    private static final int BREATH_COUNT = 1;
    private static final int LEAST_STONE = 2;
    private static final int LEAST_BREATH = 3;

    private final int n;
    private final Grid grid;
    private final int[] stones;
    private final Chart chart;
    private final Trial trial;
    private final History history;
    private final Life life;
    private int firstSide;

    public StoneBoard(int n) {
        int rows = Math.max(LEAST_SIZE, Math.min(GREATEST_SIZE, n));
        Grid points = new Grid(rows);
        int[] kinds = new int[points.count];
        this.n = rows;
        grid = points;
        stones = kinds;
        chart = new Chart(points, kinds);
        trial = new Trial(points, kinds, chart);
        history = new History(points.count);
        life = new Life(points, kinds);
        firstSide = BLACK;
    }

    public int size() {
        return n;
    }

    public int at(int point) throws IndexOutOfBoundsException {
        checkPoint(point);
        return stones[point];
    }

    public boolean put(int point, int side)
            throws IndexOutOfBoundsException, IllegalArgumentException, IllegalStateException {
        checkPoint(point);
        checkKind(side);
        checkNoMoveYet();
        int had = stones[point];
        stones[point] = side;
        chart.draw();
        if (chart.hasStringWithoutBreath()) {
            stones[point] = had;
            chart.draw();
            return false;
        }
        history.beginWith(point, side);
        return true;
    }

    public void first(int side) throws IllegalArgumentException, IllegalStateException {
        checkSide(side);
        checkNoMoveYet();
        firstSide = side;
    }

    public int turn() {
        return history.latest.number % 2 == 0 ? firstSide : otherSide(firstSide);
    }

    public int play(int point) throws IndexOutOfBoundsException, IllegalStateException {
        checkPoint(point);
        checkRoomForMove();
        if (judgeMove(point) != ALLOWED) {
            throw new IllegalStateException();
        }
        // judging the move has left the board behind it in the trial
        history.addMove(point, trial.board, trial.loser, trial.takenOff);
        showLatestBoard();
        return trial.takenOff;
    }

    public int why(int point) throws IndexOutOfBoundsException {
        checkPoint(point);
        return judgeMove(point);
    }

    public int allowed() {
        int count = 0;
        for (int point = 0; point < grid.count; point++) {
            if (judgeMove(point) == ALLOWED) {
                count++;
            }
        }
        return count;
    }

    public boolean pass() throws IllegalStateException {
        checkRoomForMove();
        if (history.hasEnded()) {
            throw new IllegalStateException();
        }
        history.addPass();
        return history.hasEnded();
    }

    public int back() throws IllegalStateException {
        if (history.latest.number == 0) {
            throw new IllegalStateException();
        }
        history.dropLatest();
        showLatestBoard();
        return history.latest.number;
    }

    public int moves() {
        return history.latest.number;
    }

    public int move(int i) throws IndexOutOfBoundsException {
        if (i < 0 || i >= history.latest.number) {
            throw new IndexOutOfBoundsException();
        }
        return history.pointOfMove(i);
    }

    public int taken(int side) throws IllegalArgumentException {
        checkSide(side);
        return side == BLACK ? history.latest.takenBlack : history.latest.takenWhite;
    }

    public int string(int point, int what) throws IndexOutOfBoundsException, IllegalArgumentException {
        checkPoint(point);
        if (what < STONE_COUNT || what > LEAST_BREATH) {
            throw new IllegalArgumentException();
        }
        if (stones[point] == FREE) {
            return NONE;
        }
        int string = chart.areas.areaAt(point);
        switch (what) {
            case STONE_COUNT:
                return chart.areas.sizeOf(string);
            case BREATH_COUNT:
                return chart.breathsOf(string);
            case LEAST_STONE:
                return chart.areas.leastOf(string);
            default:
                return chart.leastBreathOf(string);
        }
    }

    public int strings(int side) throws IllegalArgumentException {
        checkSide(side);
        return chart.countStrings(side);
    }

    public int ground(int side) throws IllegalArgumentException {
        checkKind(side);
        return chart.countGround(side);
    }

    public int owner(int point) throws IndexOutOfBoundsException {
        checkPoint(point);
        return chart.holderOf(chart.areas.areaAt(point));
    }

    public boolean alive(int point) throws IndexOutOfBoundsException {
        checkPoint(point);
        if (stones[point] == FREE) {
            return false;
        }
        life.judge(stones[point]);
        return life.standsAt(point);
    }

    public int safe(int side) throws IllegalArgumentException {
        checkSide(side);
        life.judge(side);
        return life.countSafe();
    }

    public int ago(int point) throws IndexOutOfBoundsException {
        checkPoint(point);
        if (stones[point] != FREE) {
            return NONE;
        }
        Position same = findBoardBehind(point);
        return same == null ? NONE : history.latest.number - same.number;
    }

    private void checkPoint(int point) {
        if (point < 0 || point >= grid.count) {
            throw new IndexOutOfBoundsException();
        }
    }

    private static void checkSide(int side) {
        if (side != BLACK && side != WHITE) {
            throw new IllegalArgumentException();
        }
    }

    private static void checkKind(int kind) {
        if (kind < FREE || kind > WHITE) {
            throw new IllegalArgumentException();
        }
    }

    private void checkNoMoveYet() {
        if (history.latest.number != 0) {
            throw new IllegalStateException();
        }
    }

    private void checkRoomForMove() {
        if (history.latest.number >= MOST_MOVES) {
            throw new IllegalStateException();
        }
    }

    private int judgeMove(int point) {
        if (history.hasEnded()) {
            return GAME_ENDED;
        }
        if (stones[point] != FREE) {
            return NOT_FREE;
        }
        return findBoardBehind(point) == null ? ALLOWED : CAME_BEFORE;
    }

    private Position findBoardBehind(int point) {
        trial.attempt(history.latest.board, point, turn());
        return history.find(trial.board);
    }

    private void showLatestBoard() {
        Packed.unpack(history.latest.board, stones);
        chart.draw();
    }

    private static int otherSide(int side) {
        return BLACK + WHITE - side;
    }

    /** Which points are neighbours: a table, since every other question asks for them. */
    private static final class Grid {
        static final int WAYS = 4;

        final int count;
        private final int[] around;

        Grid(int n) {
            count = n * n;
            around = new int[WAYS * count];
            for (int row = 0; row < n; row++) {
                for (int column = 0; column < n; column++) {
                    int point = n * row + column;
                    int from = WAYS * point;
                    around[from] = row > 0 ? point - n : NONE;
                    around[from + 1] = column > 0 ? point - 1 : NONE;
                    around[from + 2] = column < n - 1 ? point + 1 : NONE;
                    around[from + 3] = row < n - 1 ? point + n : NONE;
                }
            }
        }

        /** The neighbour of a point one way (0 .. WAYS - 1), or NONE behind the border. */
        int neighbour(int point, int way) {
            return around[WAYS * point + way];
        }
    }

    /** The points of a grid, split into areas: points of one kind that hang together. */
    private static final class Areas {
        int count;
        private final Grid grid;
        private final int[] areaOf;
        /** All points, those of an area one behind the other, its least point first. */
        private final int[] order;
        /** Where each area begins in the order; one entry more tells where the last one ends. */
        private final int[] start;

        Areas(Grid grid) {
            this.grid = grid;
            areaOf = new int[grid.count];
            order = new int[grid.count];
            start = new int[grid.count + 1];
        }

        void split(int[] kinds) {
            Arrays.fill(areaOf, NONE);
            count = 0;
            int end = 0;
            for (int point = 0; point < grid.count; point++) {
                if (areaOf[point] == NONE) {
                    start[count] = end;
                    end = spread(point, end, kinds);
                    count++;
                }
            }
            start[count] = end;
        }

        private int spread(int from, int begin, int[] kinds) {
            areaOf[from] = count;
            order[begin] = from;
            int end = begin + 1;
            for (int i = begin; i < end && i < grid.count; i++) {
                for (int way = 0; way < Grid.WAYS; way++) {
                    int next = grid.neighbour(order[i], way);
                    if (next != NONE && areaOf[next] == NONE && kinds[next] == kinds[from]) {
                        areaOf[next] = count;
                        order[end] = next;
                        end++;
                    }
                }
            }
            return end;
        }

        int areaAt(int point) {
            return areaOf[point];
        }

        int sizeOf(int area) {
            return start[area + 1] - start[area];
        }

        int leastOf(int area) {
            return order[start[area]];
        }

        /** A point of an area, i being 0 .. its size - 1. */
        int pointOf(int area, int i) {
            return order[start[area] + i];
        }
    }

    /** The board as it is: its strings with their breaths, its free areas, and whose ground is what. */
    private static final class Chart {
        final Areas areas;
        private final Grid grid;
        private final int[] stones;
        private final int[] breaths;
        private final int[] leastBreath;
        private final int[] holder;
        /** By which string a free point was counted last, so that no string counts a breath twice. */
        private final int[] countedBy;

        Chart(Grid grid, int[] stones) {
            this.grid = grid;
            this.stones = stones;
            areas = new Areas(grid);
            breaths = new int[grid.count];
            leastBreath = new int[grid.count];
            holder = new int[grid.count];
            countedBy = new int[grid.count];
            draw();
        }

        /** To be called whenever the stones have changed. */
        void draw() {
            areas.split(stones);
            Arrays.fill(countedBy, NONE);
            for (int area = 0; area < areas.count; area++) {
                if (isFree(area)) {
                    holder[area] = findHolder(area);
                } else {
                    holder[area] = stones[areas.leastOf(area)];
                    countBreaths(area);
                }
            }
        }

        private boolean isFree(int area) {
            return stones[areas.leastOf(area)] == FREE;
        }

        private int findHolder(int area) {
            int holding = FREE;
            for (int i = 0; i < areas.sizeOf(area); i++) {
                for (int way = 0; way < Grid.WAYS; way++) {
                    int next = grid.neighbour(areas.pointOf(area, i), way);
                    if (next == NONE || stones[next] == FREE) {
                        continue;
                    }
                    if (holding == otherSide(stones[next])) {
                        return FREE;
                    }
                    holding = stones[next];
                }
            }
            return holding;
        }

        private void countBreaths(int string) {
            int found = 0;
            int least = grid.count;
            for (int i = 0; i < areas.sizeOf(string); i++) {
                for (int way = 0; way < Grid.WAYS; way++) {
                    int next = grid.neighbour(areas.pointOf(string, i), way);
                    if (next != NONE && stones[next] == FREE && countedBy[next] != string) {
                        countedBy[next] = string;
                        found++;
                        least = Math.min(least, next);
                    }
                }
            }
            breaths[string] = found;
            leastBreath[string] = least;
        }

        int breathsOf(int string) {
            return breaths[string];
        }

        int leastBreathOf(int string) {
            return leastBreath[string];
        }

        int holderOf(int area) {
            return holder[area];
        }

        boolean hasStringWithoutBreath() {
            for (int area = 0; area < areas.count; area++) {
                if (!isFree(area) && breaths[area] == 0) {
                    return true;
                }
            }
            return false;
        }

        int countStrings(int side) {
            int found = 0;
            for (int area = 0; area < areas.count; area++) {
                if (!isFree(area) && holder[area] == side) {
                    found++;
                }
            }
            return found;
        }

        int countGround(int side) {
            int found = 0;
            for (int area = 0; area < areas.count; area++) {
                if (holder[area] == side) {
                    found += areas.sizeOf(area);
                }
            }
            return found;
        }
    }

    /** A board in a few words, two bits a point, so that many of them can be kept and compared. */
    private static final class Packed {
        private static final int BITS_A_POINT = 2;
        private static final int POINTS_A_WORD = 32;
        private static final long POINT_MASK = 3L;

        static long[] freeBoard(int points) {
            return new long[(points + POINTS_A_WORD - 1) / POINTS_A_WORD];
        }

        static int kindAt(long[] board, int point) {
            int shift = BITS_A_POINT * (point % POINTS_A_WORD);
            return (int) (board[point / POINTS_A_WORD] >>> shift & POINT_MASK);
        }

        static void setKind(long[] board, int point, int kind) {
            int word = point / POINTS_A_WORD;
            int shift = BITS_A_POINT * (point % POINTS_A_WORD);
            board[word] = board[word] & ~(POINT_MASK << shift) | (long) kind << shift;
        }

        static void unpack(long[] board, int[] kinds) {
            for (int point = 0; point < kinds.length; point++) {
                kinds[point] = kindAt(board, point);
            }
        }
    }

    /** What a move would do, worked out on a board of its own, so that asking changes nothing. */
    private static final class Trial {
        final long[] board;
        int takenOff;
        /** The side whose stones are taken off, if any are. */
        int loser;
        private final Grid grid;
        private final int[] stones;
        private final Chart chart;

        Trial(Grid grid, int[] stones, Chart chart) {
            this.grid = grid;
            this.stones = stones;
            this.chart = chart;
            board = Packed.freeBoard(grid.count);
        }

        void attempt(long[] before, int point, int side) {
            System.arraycopy(before, 0, board, 0, board.length);
            Packed.setKind(board, point, side);
            takenOff = 0;
            loser = otherSide(side);
            takeClosedStrings(point, loser);
            // taking a string gives the stone a breath, so its own string is in danger only without
            if (takenOff == 0 && !findsBreath(point, side)) {
                loser = side;
                takeClosedStrings(point, side);
                Packed.setKind(board, point, FREE);
                takenOff++;
            }
        }

        /** Takes the strings of a side whose last breath the point was: no other lost a breath. */
        private void takeClosedStrings(int point, int side) {
            for (int way = 0; way < Grid.WAYS; way++) {
                int next = grid.neighbour(point, way);
                if (next != NONE && stones[next] == side && isLastBreathOf(next)
                        && Packed.kindAt(board, next) == side) {
                    takeString(chart.areas.areaAt(next));
                }
            }
        }

        private void takeString(int string) {
            for (int i = 0; i < chart.areas.sizeOf(string); i++) {
                Packed.setKind(board, chart.areas.pointOf(string, i), FREE);
            }
            takenOff += chart.areas.sizeOf(string);
        }

        private boolean findsBreath(int point, int side) {
            for (int way = 0; way < Grid.WAYS; way++) {
                int next = grid.neighbour(point, way);
                if (next != NONE && (stones[next] == FREE
                        || stones[next] == side && !isLastBreathOf(next))) {
                    return true;
                }
            }
            return false;
        }

        /** Whether the free point that is tried is all that the string at its neighbour has left. */
        private boolean isLastBreathOf(int neighbour) {
            return chart.breathsOf(chart.areas.areaAt(neighbour)) == 1;
        }
    }

    /** A board that stood, and the move that led to it. */
    private static final class Position {
        final Position before;
        /** The next older one in the same bucket of the history. */
        final Position olderAlike;
        final long[] board;
        final int number;
        final int point;
        final int takenBlack;
        final int takenWhite;

        Position(Position before, Position olderAlike, long[] board, int point, int takenBlack,
                int takenWhite) {
            this.before = before;
            this.olderAlike = olderAlike;
            this.board = board;
            this.number = before == null ? 0 : before.number + 1;
            this.point = point;
            this.takenBlack = takenBlack;
            this.takenWhite = takenWhite;
        }

        boolean hasBoard(long[] other) {
            for (int i = 0; i < board.length && i < other.length; i++) {
                if (board[i] != other[i]) {
                    return false;
                }
            }
            return true;
        }
    }

    /** All boards that stood since the beginning, in buckets so that a board is soon found again. */
    private static final class History {
        private static final int WORD_BITS = 64;
        private static final int BUCKET_BITS = 7;
        private static final long MIXER = 0x9E3779B97F4A7C15L;

        Position latest;
        private final Position[] buckets;

        History(int points) {
            buckets = new Position[1 << BUCKET_BITS];
            keep(null, Packed.freeBoard(points), BEGINNING, 0, 0);
        }

        /** Changes a point of the beginning; only for a history without a move. */
        void beginWith(int point, int kind) {
            long[] board = latest.board.clone();
            Packed.setKind(board, point, kind);
            takeOutOfBucket(latest);
            keep(null, board, BEGINNING, 0, 0);
        }

        void addMove(int point, long[] board, int loser, int takenOff) {
            int takenBlack = latest.takenBlack + (loser == BLACK ? takenOff : 0);
            int takenWhite = latest.takenWhite + (loser == WHITE ? takenOff : 0);
            keep(latest, board.clone(), point, takenBlack, takenWhite);
        }

        void addPass() {
            keep(latest, latest.board, PASSED, latest.takenBlack, latest.takenWhite);
        }

        void dropLatest() {
            if (latest.before != null) {
                takeOutOfBucket(latest);
                latest = latest.before;
            }
        }

        boolean hasEnded() {
            return latest.point == PASSED && latest.before != null && latest.before.point == PASSED;
        }

        /** The latest position with a board, or null. */
        Position find(long[] board) {
            Position position = buckets[bucketOf(board)];
            while (position != null && !position.hasBoard(board)) {
                position = position.olderAlike;
            }
            return position;
        }

        int pointOfMove(int i) {
            Position position = latest;
            while (position.before != null && position.number > i + 1) {
                position = position.before;
            }
            return position.point;
        }

        private void keep(Position before, long[] board, int point, int takenBlack, int takenWhite) {
            int bucket = bucketOf(board);
            latest = new Position(before, buckets[bucket], board, point, takenBlack, takenWhite);
            buckets[bucket] = latest;
        }

        /** Only for the latest position: it alone is sure to be the first of its bucket. */
        private void takeOutOfBucket(Position position) {
            buckets[bucketOf(position.board)] = position.olderAlike;
        }

        private static int bucketOf(long[] board) {
            long mixed = 0;
            for (long word : board) {
                mixed = (mixed ^ word) * MIXER;
            }
            // the high bits are those that every point has a say in
            return (int) (mixed >>> (WORD_BITS - BUCKET_BITS));
        }
    }

    /** The strings of one side that live whatever comes, and the regions that are safe with them. */
    private static final class Life {
        private static final int STRING = 1;
        private static final int REGION = 0;
        private static final int REGIONS_TO_LIVE = 2;

        private final Grid grid;
        private final int[] stones;
        private final int[] kinds;
        private final Areas areas;
        private final boolean[] stands;
        /**
         * For each region the strings it belongs to or NONE, one a way: all of them are beside the
         * region's first point, so there are no more than there are ways.
         */
        private final int[] belongsTo;
        private final int[] regionsOfString;

        Life(Grid grid, int[] stones) {
            this.grid = grid;
            this.stones = stones;
            kinds = new int[grid.count];
            areas = new Areas(grid);
            stands = new boolean[grid.count];
            belongsTo = new int[Grid.WAYS * grid.count];
            regionsOfString = new int[grid.count];
        }

        void judge(int side) {
            for (int point = 0; point < grid.count; point++) {
                kinds[point] = stones[point] == side ? STRING : REGION;
            }
            areas.split(kinds);
            for (int area = 0; area < areas.count; area++) {
                stands[area] = true;
                noteStringsOf(area);
            }
            for (int round = 0; round < areas.count && letStringsFall(); round++) {
                letRegionsFall();
            }
        }

        boolean standsAt(int point) {
            return stands[areas.areaAt(point)];
        }

        int countSafe() {
            boolean anyString = false;
            int points = 0;
            for (int area = 0; area < areas.count; area++) {
                if (stands[area]) {
                    anyString = anyString || kindOf(area) == STRING;
                    points += areas.sizeOf(area);
                }
            }
            return anyString ? points : 0;
        }

        private int kindOf(int area) {
            return kinds[areas.leastOf(area)];
        }

        private void noteStringsOf(int region) {
            int from = Grid.WAYS * region;
            for (int way = 0; way < Grid.WAYS; way++) {
                int next = grid.neighbour(areas.leastOf(region), way);
                belongsTo[from + way] = NONE;
                if (kindOf(region) == REGION && next != NONE && kinds[next] == STRING) {
                    int string = areas.areaAt(next);
                    if (!isNoted(string, from, way) && belongs(region, string)) {
                        belongsTo[from + way] = string;
                    }
                }
            }
        }

        private boolean isNoted(int string, int from, int ways) {
            for (int way = 0; way < ways; way++) {
                if (belongsTo[from + way] == string) {
                    return true;
                }
            }
            return false;
        }

        private boolean belongs(int region, int string) {
            for (int i = 0; i < areas.sizeOf(region); i++) {
                if (!isBeside(areas.pointOf(region, i), string)) {
                    return false;
                }
            }
            return true;
        }

        private boolean isBeside(int point, int string) {
            for (int way = 0; way < Grid.WAYS; way++) {
                int next = grid.neighbour(point, way);
                if (next != NONE && areas.areaAt(next) == string) {
                    return true;
                }
            }
            return false;
        }

        private boolean letStringsFall() {
            countRegionsOfStrings();
            boolean anyFell = false;
            for (int area = 0; area < areas.count; area++) {
                if (stands[area] && kindOf(area) == STRING
                        && regionsOfString[area] < REGIONS_TO_LIVE) {
                    stands[area] = false;
                    anyFell = true;
                }
            }
            return anyFell;
        }

        private void countRegionsOfStrings() {
            Arrays.fill(regionsOfString, 0);
            for (int i = 0; i < Grid.WAYS * areas.count; i++) {
                if (belongsTo[i] != NONE && stands[i / Grid.WAYS]) {
                    regionsOfString[belongsTo[i]]++;
                }
            }
        }

        private void letRegionsFall() {
            for (int point = 0; point < grid.count; point++) {
                if (kinds[point] == REGION && isBesideFallenString(point)) {
                    stands[areas.areaAt(point)] = false;
                }
            }
        }

        private boolean isBesideFallenString(int point) {
            for (int way = 0; way < Grid.WAYS; way++) {
                int next = grid.neighbour(point, way);
                if (next != NONE && kinds[next] == STRING && !standsAt(next)) {
                    return true;
                }
            }
            return false;
        }
    }
}
