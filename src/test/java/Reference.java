import java.util.ArrayList;
import java.util.HashMap;
import java.util.HashSet;
import java.util.List;
import java.util.Map;
import java.util.Set;
import java.util.TreeSet;

/** The document's words taken as slowly and plainly as can be, to hold StoneBoard against. */
final class Reference {
    private static final String KINDS = ".XO";

    private final int n;
    private int first = 1;
    /** The boards that stood, the beginning first. */
    private final List<String> boards = new ArrayList<>();
    private final List<Integer> points = new ArrayList<>();

    Reference(int size) {
        n = size < 2 ? 2 : size > 13 ? 13 : size;
        boards.add(".".repeat(n * n));
    }

    int size() {
        return n;
    }

    int at(int point) {
        needPoint(point);
        return KINDS.indexOf(board().charAt(point));
    }

    boolean put(int point, int side) {
        needPoint(point);
        need(side >= 0 && side <= 2);
        needState(points.isEmpty());
        String changed = with(board(), point, side);
        for (int p = 0; p < n * n; p++) {
            if (changed.charAt(p) != '.' && breaths(changed, stringAt(changed, p)).isEmpty()) {
                return false;
            }
        }
        boards.set(0, changed);
        return true;
    }

    void first(int side) {
        need(side == 1 || side == 2);
        needState(points.isEmpty());
        first = side;
    }

    int turn() {
        return sideOfMove(points.size());
    }

    int play(int point) {
        needPoint(point);
        needState(why(point) == 0);
        String behind = behind(point);
        int off = count(behind, ".") - count(board(), ".") + 1;
        boards.add(behind);
        points.add(point);
        return off;
    }

    int why(int point) {
        needPoint(point);
        if (ended()) {
            return 1;
        }
        if (at(point) != 0) {
            return 2;
        }
        return boards.contains(behind(point)) ? 3 : 0;
    }

    int allowed() {
        int found = 0;
        for (int p = 0; p < n * n; p++) {
            found += why(p) == 0 ? 1 : 0;
        }
        return found;
    }

    boolean pass() {
        needState(!ended());
        boards.add(board());
        points.add(-1);
        return ended();
    }

    int back() {
        needState(!points.isEmpty());
        boards.remove(boards.size() - 1);
        points.remove(points.size() - 1);
        return points.size();
    }

    int moves() {
        return points.size();
    }

    int move(int i) {
        if (i < 0 || i >= points.size()) {
            throw new IndexOutOfBoundsException();
        }
        return points.get(i);
    }

    /** Stones that were there or came, less those that are still there. */
    int taken(int side) {
        need(side == 1 || side == 2);
        String stone = KINDS.substring(side, side + 1);
        int came = count(boards.get(0), stone);
        for (int i = 0; i < points.size(); i++) {
            came += points.get(i) >= 0 && sideOfMove(i) == side ? 1 : 0;
        }
        return came - count(board(), stone);
    }

    int string(int point, int what) {
        needPoint(point);
        need(what >= 0 && what <= 3);
        if (at(point) == 0) {
            return -1;
        }
        TreeSet<Integer> string = stringAt(board(), point);
        TreeSet<Integer> breaths = breaths(board(), string);
        return what == 0 ? string.size()
                : what == 1 ? breaths.size()
                : what == 2 ? string.first() : breaths.first();
    }

    int strings(int side) {
        need(side == 1 || side == 2);
        return areas(board(), KINDS.substring(side, side + 1)).size();
    }

    int ground(int side) {
        need(side >= 0 && side <= 2);
        int found = 0;
        for (int p = 0; p < n * n; p++) {
            found += owner(p) == side ? 1 : 0;
        }
        return found;
    }

    int owner(int point) {
        needPoint(point);
        if (at(point) != 0) {
            return at(point);
        }
        Set<Integer> sides = new HashSet<>();
        for (int p : area(board(), point, ".")) {
            for (int q : neighbours(p)) {
                sides.add(at(q));
            }
        }
        sides.remove(0);
        return sides.size() == 1 ? sides.iterator().next() : 0;
    }

    boolean alive(int point) {
        needPoint(point);
        return at(point) != 0 && standing(at(point), false).contains(point);
    }

    int safe(int side) {
        need(side == 1 || side == 2);
        return standing(side, true).size();
    }

    int ago(int point) {
        needPoint(point);
        if (at(point) != 0) {
            return -1;
        }
        int last = boards.lastIndexOf(behind(point));
        return last < 0 ? -1 : boards.size() - 1 - last;
    }

    /** The points of the strings that stand, and of the regions too if they are asked for. */
    private Set<Integer> standing(int side, boolean withRegions) {
        String own = KINDS.substring(side, side + 1);
        String others = KINDS.replace(own, "");
        List<TreeSet<Integer>> strings = areas(board(), own);
        List<TreeSet<Integer>> regions = areas(board(), others);
        boolean fell = true;
        while (fell) {
            List<TreeSet<Integer>> falling = new ArrayList<>();
            for (TreeSet<Integer> string : strings) {
                int belonging = 0;
                for (TreeSet<Integer> region : regions) {
                    belonging += beside(string).containsAll(region) ? 1 : 0;
                }
                if (belonging < 2) {
                    falling.add(string);
                }
            }
            strings.removeAll(falling);
            for (TreeSet<Integer> string : falling) {
                regions.removeIf(region -> region.stream().anyMatch(beside(string)::contains));
            }
            fell = !falling.isEmpty();
        }
        Set<Integer> all = new HashSet<>();
        strings.forEach(all::addAll);
        if (withRegions && !strings.isEmpty()) {
            regions.forEach(all::addAll);
        }
        return all;
    }

    private Set<Integer> beside(Set<Integer> some) {
        Set<Integer> found = new HashSet<>();
        for (int p : some) {
            found.addAll(neighbours(p));
        }
        return found;
    }

    private String behind(int point) {
        int side = turn();
        String board = with(board(), point, side);
        Set<Integer> off = new HashSet<>();
        for (TreeSet<Integer> string : areas(board, KINDS.substring(3 - side, 4 - side))) {
            if (breaths(board, string).isEmpty()) {
                off.addAll(string);
            }
        }
        board = without(board, off);
        TreeSet<Integer> own = stringAt(board, point);
        return breaths(board, own).isEmpty() ? without(board, own) : board;
    }

    private String board() {
        return boards.get(boards.size() - 1);
    }

    private boolean ended() {
        int made = points.size();
        return made >= 2 && points.get(made - 1) == -1 && points.get(made - 2) == -1;
    }

    private int sideOfMove(int i) {
        return i % 2 == 0 ? first : 3 - first;
    }

    private TreeSet<Integer> stringAt(String board, int point) {
        return area(board, point, board.substring(point, point + 1));
    }

    private TreeSet<Integer> breaths(String board, Set<Integer> string) {
        TreeSet<Integer> found = new TreeSet<>(beside(string));
        found.removeIf(p -> board.charAt(p) != '.');
        return found;
    }

    private List<TreeSet<Integer>> areas(String board, String kinds) {
        Map<Integer, TreeSet<Integer>> byLeast = new HashMap<>();
        for (int p = 0; p < n * n; p++) {
            if (kinds.indexOf(board.charAt(p)) >= 0) {
                TreeSet<Integer> area = area(board, p, kinds);
                byLeast.put(area.first(), area);
            }
        }
        return new ArrayList<>(byLeast.values());
    }

    private TreeSet<Integer> area(String board, int point, String kinds) {
        TreeSet<Integer> found = new TreeSet<>();
        reach(board, point, kinds, found);
        return found;
    }

    private void reach(String board, int point, String kinds, Set<Integer> found) {
        if (kinds.indexOf(board.charAt(point)) >= 0 && found.add(point)) {
            for (int q : neighbours(point)) {
                reach(board, q, kinds, found);
            }
        }
    }

    private List<Integer> neighbours(int point) {
        List<Integer> found = new ArrayList<>();
        for (int q = 0; q < n * n; q++) {
            int rows = Math.abs(q / n - point / n);
            int columns = Math.abs(q % n - point % n);
            if (rows + columns == 1) {
                found.add(q);
            }
        }
        return found;
    }

    private static String with(String board, int point, int kind) {
        return board.substring(0, point) + KINDS.charAt(kind) + board.substring(point + 1);
    }

    private static String without(String board, Set<Integer> off) {
        String left = board;
        for (int p : off) {
            left = with(left, p, 0);
        }
        return left;
    }

    private static int count(String board, String kind) {
        return board.length() - board.replace(kind, "").length();
    }

    private void needPoint(int point) {
        if (point < 0 || point >= n * n) {
            throw new IndexOutOfBoundsException();
        }
    }

    private static void need(boolean fine) {
        if (!fine) {
            throw new IllegalArgumentException();
        }
    }

    private static void needState(boolean fine) {
        if (!fine) {
            throw new IllegalStateException();
        }
    }
}
