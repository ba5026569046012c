import java.util.Random;

/** Long runs of all calls, drawn from fixed seeds, answered by StoneBoard and by the reference. */
public final class ReferenceTest {
    private static final int CALLS = 512;

    private final StoneBoard board;
    private final Reference reference;
    private final Random random;
    private final int points;
    /** How often of ten times a call that changes something is drawn. */
    private final int eagerness;

    private ReferenceTest(int n, long seed) {
        board = new StoneBoard(n);
        reference = new Reference(n);
        random = new Random(seed);
        points = reference.size() * reference.size();
        eagerness = 2 + random.nextInt(8);
    }

    public static void main(String[] args) {
        Checks is = new Checks();
        int[] runsOfSize = {20, 0, 120, 120, 80, 60, 20, 10, 6, 4, 2, 2, 2, 4, 2};
        for (int n = 0; n < runsOfSize.length; n++) {
            for (int run = 0; run < runsOfSize[n]; run++) {
                String wrong = new ReferenceTest(n, 1000L * n + run).firstWrongCall();
                if (wrong != null) {
                    System.out.println("n " + n + ", run " + run + ": " + wrong);
                }
                is.yes("n " + n + ", run " + run, wrong == null);
            }
        }
        for (int seed = 0; seed < 300; seed++) {
            compareDenseBoard(is, seed);
        }
        is.end("ReferenceTest");
    }

    /** A board that one side fills but for a few points: there strings live, or fall by and by. */
    private static void compareDenseBoard(Checks is, int seed) {
        Random random = new Random(seed);
        int n = 2 + seed % 6;
        int side = 1 + random.nextInt(2);
        int density = 40 + random.nextInt(50);
        StoneBoard board = new StoneBoard(n);
        Reference reference = new Reference(n);
        for (int point = 0; point < n * n; point++) {
            int drawn = random.nextInt(100);
            int kind = drawn < density ? side : drawn < density + 10 ? 3 - side : 0;
            is.same("put, board " + seed, board.put(point, kind), reference.put(point, kind));
        }
        for (int asked = 1; asked <= 2; asked++) {
            is.same("safe, board " + seed, board.safe(asked), reference.safe(asked));
        }
        for (int point = 0; point < n * n; point++) {
            is.same("alive, board " + seed, board.alive(point), reference.alive(point));
        }
    }

    private String firstWrongCall() {
        boolean begun = false;
        for (int i = 0; i < CALLS; i++) {
            begun = begun || i > 3 * points || i > CALLS / 2 || random.nextInt(2 * points) == 0;
            String wrong = oneCall(begun);
            if (wrong != null) {
                return "call " + i + ", " + wrong;
            }
        }
        return null;
    }

    private String oneCall(boolean begun) {
        int call = random.nextInt(10) < eagerness ? changingCall(begun) : 8 + random.nextInt(16);
        int point = anyPoint();
        int other = call == 0 ? anyKind() : random.nextInt(20) == 0 ? anyInt() : 1 + random.nextInt(2);
        if (call == 16 || call == 17) {
            other = random.nextInt(15) == 0 ? anyInt() : random.nextInt(4);
        }
        if (call == 19) {
            other = anyKind();
        }
        if (call == 14) {
            point = random.nextInt(15) == 0 ? anyInt() : random.nextInt(board.moves() + 2) - 1;
        }
        String got = answer(board, null, call, point, other);
        String want = answer(null, reference, call, point, other);
        return got.equals(want) ? null
                : "kind " + call + "(" + point + ", " + other + ") answered " + got + ", due is " + want;
    }

    private int changingCall(boolean begun) {
        if (!begun) {
            return random.nextInt(12) == 0 ? 1 : 0;
        }
        int drawn = random.nextInt(100);
        return drawn < 78 ? 2 : drawn < 84 ? 3 : drawn < 96 ? 4 : drawn < 98 ? 0 : 1;
    }

    private int anyPoint() {
        return random.nextInt(40) == 0 ? anyInt() : random.nextInt(points);
    }

    private int anyKind() {
        return random.nextInt(25) == 0 ? anyInt() : random.nextInt(3);
    }

    private int anyInt() {
        int[] odd = {-1, -2, points, points + 1, 3, 4, 0, Integer.MIN_VALUE, Integer.MAX_VALUE};
        return odd[random.nextInt(odd.length)];
    }

    /** The answer of whichever of the two is there, or the name of what it threw. */
    private static String answer(StoneBoard b, Reference r, int call, int point, int other) {
        try {
            return "" + (b != null ? ask(b, call, point, other) : ask(r, call, point, other));
        } catch (RuntimeException e) {
            return e.getClass().getName();
        }
    }

    private static Object ask(StoneBoard b, int call, int point, int other) {
        switch (call) {
            case 0: return b.put(point, other);
            case 1: b.first(other); return "";
            case 2: return b.play(point);
            case 3: return b.pass();
            case 4: return b.back();
            case 8: return b.size();
            case 9: return b.at(point);
            case 10: return b.turn();
            case 11: return b.why(point);
            case 12: return b.allowed();
            case 13: return b.moves();
            case 14: return b.move(point);
            case 15: return b.taken(other);
            case 16: case 17: return b.string(point, other);
            case 18: return b.strings(other);
            case 19: return b.ground(other);
            case 20: return b.owner(point);
            case 21: return b.alive(point);
            case 22: return b.safe(other);
            default: return b.ago(point);
        }
    }

    private static Object ask(Reference r, int call, int point, int other) {
        switch (call) {
            case 0: return r.put(point, other);
            case 1: r.first(other); return "";
            case 2: return r.play(point);
            case 3: return r.pass();
            case 4: return r.back();
            case 8: return r.size();
            case 9: return r.at(point);
            case 10: return r.turn();
            case 11: return r.why(point);
            case 12: return r.allowed();
            case 13: return r.moves();
            case 14: return r.move(point);
            case 15: return r.taken(other);
            case 16: case 17: return r.string(point, other);
            case 18: return r.strings(other);
            case 19: return r.ground(other);
            case 20: return r.owner(point);
            case 21: return r.alive(point);
            case 22: return r.safe(other);
            default: return r.ago(point);
        }
    }
}
