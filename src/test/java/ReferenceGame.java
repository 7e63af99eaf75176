import java.util.ArrayList;
import java.util.Arrays;
import java.util.HashMap;
import java.util.List;
import java.util.Map;
import java.util.TreeMap;
import java.util.TreeSet;

/** The document's words in their plainest and slowest form, to compare BoxesGame with. */
final class ReferenceGame {
    /** A line as its two end points, by column and row of the corners. */
    private record Side(int x1, int y1, int x2, int y2) {
        static Side of(int xa, int ya, int xb, int yb) {
            boolean swap = xa > xb || ya > yb;
            return swap ? new Side(xb, yb, xa, ya) : new Side(xa, ya, xb, yb);
        }
    }

    private int columns = 2;
    private int rows = 2;
    private List<Side> sides = new ArrayList<>();
    private int[][] boxSides;
    private boolean[] isDrawn;
    private int[] owners;
    private int mover;
    private List<Integer> moves = new ArrayList<>();
    private final StringBuilder buffer = new StringBuilder();

    ReferenceGame() {
        begin(2, 2);
    }

    private ReferenceGame(ReferenceGame other) {
        columns = other.columns;
        rows = other.rows;
        sides = other.sides;
        boxSides = other.boxSides;
        isDrawn = other.isDrawn.clone();
        owners = other.owners.clone();
        mover = other.mover;
        moves = new ArrayList<>(other.moves);
    }

    // ---- the board in words

    private int linesAmount() {
        return sides.size();
    }

    private int boxAmount() {
        return columns * rows;
    }

    private int[] around(int box) {
        return boxSides[box];
    }

    private int[] findAround(int box) {
        int x = box % columns;
        int y = box / columns;
        return new int[] {
            sides.indexOf(Side.of(x, y, x + 1, y)), sides.indexOf(Side.of(x, y + 1, x + 1, y + 1)),
            sides.indexOf(Side.of(x, y, x, y + 1)), sides.indexOf(Side.of(x + 1, y, x + 1, y + 1))};
    }

    private boolean bounds(int line, int box) {
        for (int side : around(box)) {
            if (side == line) {
                return true;
            }
        }
        return false;
    }

    private int openAround(int box) {
        int open = 0;
        for (int side : around(box)) {
            open += isDrawn[side] ? 0 : 1;
        }
        return open;
    }

    private List<Integer> openLines() {
        List<Integer> open = new ArrayList<>();
        for (int line = 0; line < linesAmount(); line++) {
            if (!isDrawn[line]) {
                open.add(line);
            }
        }
        return open;
    }

    private int complete() {
        int complete = 0;
        for (int box = 0; box < boxAmount(); box++) {
            complete += openAround(box) == 0 ? 1 : 0;
        }
        return complete;
    }

    private ReferenceGame behind(int line) {
        ReferenceGame next = new ReferenceGame(this);
        next.draw(line);
        return next;
    }

    private void needLine(int line) {
        if (line < 0 || line >= linesAmount()) {
            throw new IndexOutOfBoundsException();
        }
    }

    private void needOpen(int line) {
        needLine(line);
        if (isDrawn[line]) {
            throw new IllegalStateException();
        }
    }

    private void needBox(int box) {
        if (box < 0 || box >= boxAmount()) {
            throw new IndexOutOfBoundsException();
        }
    }

    private static void need(boolean inRange) {
        if (!inRange) {
            throw new IllegalArgumentException();
        }
    }

    // ---- the face

    int begin(int newColumns, int newRows) {
        need(newColumns >= 1 && newColumns <= 4 && newRows >= 1 && newRows <= 4);
        columns = newColumns;
        rows = newRows;
        sides = new ArrayList<>();
        for (int y = 0; y <= rows; y++) {
            for (int x = 0; x < columns; x++) {
                sides.add(Side.of(x, y, x + 1, y));
            }
        }
        for (int y = 0; y < rows; y++) {
            for (int x = 0; x <= columns; x++) {
                sides.add(Side.of(x, y, x, y + 1));
            }
        }
        boxSides = new int[boxAmount()][];
        for (int box = 0; box < boxAmount(); box++) {
            boxSides[box] = findAround(box);
        }
        isDrawn = new boolean[sides.size()];
        owners = new int[boxAmount()];
        Arrays.fill(owners, -1);
        mover = 0;
        moves = new ArrayList<>();
        return sides.size();
    }

    int draw(int line) {
        needOpen(line);
        int before = complete();
        isDrawn[line] = true;
        moves.add(line);
        int gain = complete() - before;
        for (int box = 0; box < boxAmount(); box++) {
            if (bounds(line, box) && openAround(box) == 0) {
                owners[box] = mover;
            }
        }
        if (gain == 0) {
            mover = 1 - mover;
        }
        return gain;
    }

    int undo() {
        if (moves.isEmpty()) {
            throw new IllegalStateException();
        }
        List<Integer> old = moves;
        String text = buffer.toString();
        begin(columns, rows);
        for (int i = 0; i < old.size() - 1; i++) {
            draw(old.get(i));
        }
        buffer.setLength(0);
        buffer.append(text);
        return old.get(old.size() - 1);
    }

    int follow(int style, int most) {
        need(style >= 0 && style <= 2 && most >= 1 && most <= 40);
        int made = 0;
        while (made < most && !openLines().isEmpty()) {
            draw(advice(style));
            made++;
        }
        return made;
    }

    int append(int code) {
        need(code >= 32 && code <= 126);
        if (buffer.length() == 60) {
            throw new IllegalStateException();
        }
        buffer.append((char) code);
        return buffer.length();
    }

    int clearInput() {
        int length = buffer.length();
        buffer.setLength(0);
        return length;
    }

    /** All texts of lines, with the numbers of the lines. */
    private Map<String, Integer> lineTexts() {
        Map<String, Integer> texts = new TreeMap<>();
        for (int line = 0; line < linesAmount(); line++) {
            Side side = sides.get(line);
            texts.put((side.y1 == side.y2 ? "h" : "v") + side.x1 + side.y1, line);
        }
        return texts;
    }

    private boolean canBegin(String text) {
        String[] parts = text.split(",", -1);
        for (int i = 0; i < parts.length; i++) {
            boolean found = false;
            for (String whole : lineTexts().keySet()) {
                found |= i == parts.length - 1 ? whole.startsWith(parts[i]) : whole.equals(parts[i]);
            }
            if (!found) {
                return false;
            }
        }
        return true;
    }

    int firstError() {
        for (int length = 1; length <= buffer.length(); length++) {
            if (!canBegin(buffer.substring(0, length))) {
                return length - 1;
            }
        }
        return buffer.length();
    }

    int load() {
        List<Integer> lines = new ArrayList<>();
        for (String part : buffer.toString().split(",", -1)) {
            Integer line = lineTexts().get(part);
            if (line == null) {
                throw new IllegalStateException();
            }
            lines.add(line);
        }
        for (int i = 0; i < lines.size(); i++) {
            need(!isDrawn[lines.get(i)] && lines.indexOf(lines.get(i)) == i);
        }
        int gain = 0;
        for (int line : lines) {
            gain += draw(line);
        }
        buffer.setLength(0);
        return gain;
    }

    int count(int what) {
        need(what >= 0 && what <= 10);
        int[] kinds = new int[4];
        for (int line = 0; line < linesAmount(); line++) {
            kinds[kind(line)]++;
        }
        int[] numbers = {columns, rows, linesAmount(), moves.size(), complete(), mover,
            kinds[1], kinds[2], kinds[3], run(), strings().size()};
        return numbers[what];
    }

    int score(int player) {
        need(player == 0 || player == 1);
        int score = 0;
        for (int owner : owners) {
            score += owner == player ? 1 : 0;
        }
        return score;
    }

    int line(boolean vertical, int x, int y) {
        int number = sides.indexOf(vertical ? Side.of(x, y, x, y + 1) : Side.of(x, y, x + 1, y));
        if (number < 0) {
            throw new IndexOutOfBoundsException();
        }
        return number;
    }

    int kind(int line) {
        needLine(line);
        if (isDrawn[line]) {
            return 0;
        }
        ReferenceGame next = behind(line);
        if (next.complete() > complete()) {
            return 1;
        }
        for (int box = 0; box < boxAmount(); box++) {
            if (bounds(line, box) && next.openAround(box) == 1) {
                return 3;
            }
        }
        return 2;
    }

    private int lowestOfKind(int kind) {
        for (int line = 0; line < linesAmount(); line++) {
            if (kind(line) == kind) {
                return line;
            }
        }
        return -1;
    }

    private int run() {
        ReferenceGame copy = new ReferenceGame(this);
        for (int line = copy.lowestOfKind(1); line >= 0; line = copy.lowestOfKind(1)) {
            copy.draw(line);
        }
        return copy.complete() - complete();
    }

    int price(int line) {
        needOpen(line);
        return behind(line).run();
    }

    int drawn(int move) {
        if (move < 0 || move >= moves.size()) {
            throw new IndexOutOfBoundsException();
        }
        return moves.get(move);
    }

    int owner(int box) {
        needBox(box);
        return owners[box];
    }

    int openSides(int box) {
        needBox(box);
        return openAround(box);
    }

    int safeMoves() {
        ReferenceGame copy = new ReferenceGame(this);
        int made = 0;
        for (int line = copy.lowestOfKind(2); line >= 0; line = copy.lowestOfKind(2)) {
            copy.draw(line);
            made++;
        }
        return made;
    }

    // ---- strings

    private boolean isThin(int box) {
        return openAround(box) == 1 || openAround(box) == 2;
    }

    private boolean hangTogether(int a, int b) {
        for (int line : openLines()) {
            if (bounds(line, a) && bounds(line, b)) {
                return true;
            }
        }
        return false;
    }

    private List<List<Integer>> strings() {
        List<List<Integer>> strings = new ArrayList<>();
        boolean[] seen = new boolean[boxAmount()];
        for (int box = 0; box < boxAmount(); box++) {
            if (isThin(box) && !seen[box]) {
                List<Integer> string = new ArrayList<>();
                visit(box, seen, string);
                strings.add(string);
            }
        }
        return strings;
    }

    private void visit(int box, boolean[] seen, List<Integer> string) {
        seen[box] = true;
        string.add(box);
        for (int other = 0; other < boxAmount(); other++) {
            if (isThin(other) && !seen[other] && hangTogether(box, other)) {
                visit(other, seen, string);
            }
        }
    }

    int stringOf(int box) {
        needBox(box);
        List<List<Integer>> strings = strings();
        for (int i = 0; i < strings.size(); i++) {
            if (strings.get(i).contains(box)) {
                return i;
            }
        }
        return -1;
    }

    private boolean isLoop(List<Integer> string) {
        for (int box : string) {
            if (openAround(box) != 2) {
                return false;
            }
            for (int line : around(box)) {
                boolean shared = isDrawn[line];
                for (int other : string) {
                    shared |= other != box && bounds(line, other);
                }
                if (!shared) {
                    return false;
                }
            }
        }
        return true;
    }

    private boolean isOpen(List<Integer> string) {
        for (int box : string) {
            if (openAround(box) == 1) {
                return true;
            }
        }
        return false;
    }

    int string(int number, int what) {
        List<List<Integer>> strings = strings();
        if (number < 0 || number >= strings.size()) {
            throw new IndexOutOfBoundsException();
        }
        need(what >= 0 && what <= 4);
        List<Integer> string = strings.get(number);
        int lines = 0;
        int ends = 0;
        for (int line : openLines()) {
            boolean inside = false;
            boolean outside = false;
            for (int box = 0; box < boxAmount(); box++) {
                inside |= bounds(line, box) && string.contains(box);
                outside |= bounds(line, box) && !isThin(box);
            }
            lines += inside ? 1 : 0;
            ends += inside && outside ? 1 : 0;
        }
        return new int[] {string.size(), isLoop(string) ? 1 : 0, isOpen(string) ? 1 : 0, lines, ends}[what];
    }

    int control(int what) {
        need(what >= 0 && what <= 5);
        int chains = 0;
        int loops = 0;
        int value = 0;
        int thick = 0;
        boolean anyOpen = false;
        for (List<Integer> string : strings()) {
            anyOpen |= isOpen(string);
            if (isLoop(string)) {
                loops++;
                value += string.size() - 8;
            } else if (string.size() >= 3) {
                chains++;
                value += string.size() - 4;
            }
        }
        for (int box = 0; box < boxAmount(); box++) {
            thick += openAround(box) != 0 && !isThin(box) ? 1 : 0;
        }
        int parity = ((columns + 1) * (rows + 1) + chains) % 2;
        return new int[] {chains, loops, thick, thick == 0 && !anyOpen ? 1 : 0, value, parity}[what];
    }

    int prediction() {
        List<Integer> sizes = new ArrayList<>();
        for (List<Integer> string : strings()) {
            sizes.add(isLoop(string) ? -string.size() : string.size());
        }
        if (sizes.size() > 10) {
            throw new IllegalStateException();
        }
        sizes.sort(null);
        return predict(sizes, new HashMap<>());
    }

    /** Loops are given as negative sizes. */
    private static int predict(List<Integer> sizes, Map<List<Integer>, Integer> known) {
        if (sizes.isEmpty()) {
            return 0;
        }
        Integer old = known.get(sizes);
        if (old != null) {
            return old;
        }
        int least = Integer.MAX_VALUE;
        for (int i = 0; i < sizes.size(); i++) {
            List<Integer> rest = new ArrayList<>(sizes);
            int t = rest.remove(i);
            int n = t < 0 ? -t : t;
            int v = predict(rest, known);
            int w = n - v;
            if (t < 0) {
                w = Math.max(n - v, n - 8 + v);
            } else if (n >= 3) {
                w = Math.max(n - v, n - 4 + v);
            }
            least = Math.min(least, w);
        }
        known.put(sizes, least);
        return least;
    }

    // ---- exact results

    private void needFew() {
        if (openLines().size() > 12) {
            throw new IllegalStateException();
        }
    }

    int outcome() {
        needFew();
        return best(new HashMap<>());
    }

    private int best(Map<Long, Integer> known) {
        Integer old = known.get(code());
        if (old != null) {
            return old;
        }
        int best = openLines().isEmpty() ? 0 : Integer.MIN_VALUE;
        for (int line : openLines()) {
            best = Math.max(best, worthBy(line, known));
        }
        known.put(code(), best);
        return best;
    }

    private int worthBy(int line, Map<Long, Integer> known) {
        ReferenceGame next = behind(line);
        int gain = next.complete() - complete();
        int rest = next.best(known);
        return next.mover == mover ? gain + rest : gain - rest;
    }

    int worth(int line) {
        needOpen(line);
        needFew();
        return worthBy(line, new HashMap<>());
    }

    // ---- symmetry

    private long code() {
        long code = 0;
        for (int line = 0; line < linesAmount(); line++) {
            code += isDrawn[line] ? 1L << line : 0;
        }
        return code;
    }

    /** The codes to which the symmetries take the drawn lines, each symmetry with its own. */
    private List<Long> codes() {
        List<Long> codes = new ArrayList<>();
        for (int turn = 0; turn < (columns == rows ? 2 : 1); turn++) {
            for (int flipX = 0; flipX < 2; flipX++) {
                for (int flipY = 0; flipY < 2; flipY++) {
                    long code = 0;
                    for (int line = 0; line < linesAmount(); line++) {
                        if (isDrawn[line]) {
                            code += 1L << sides.indexOf(moved(sides.get(line), turn, flipX, flipY));
                        }
                    }
                    codes.add(code);
                }
            }
        }
        return codes;
    }

    private Side moved(Side side, int turn, int flipX, int flipY) {
        int x1 = flipX == 1 ? columns - side.x1 : side.x1;
        int x2 = flipX == 1 ? columns - side.x2 : side.x2;
        int y1 = flipY == 1 ? rows - side.y1 : side.y1;
        int y2 = flipY == 1 ? rows - side.y2 : side.y2;
        return turn == 1 ? Side.of(y1, x1, y2, x2) : Side.of(x1, y1, x2, y2);
    }

    long canonical() {
        return new TreeSet<>(codes()).first();
    }

    int symmetries() {
        int same = 0;
        for (long code : codes()) {
            same += code == code() ? 1 : 0;
        }
        return same;
    }

    int followers() {
        TreeSet<Long> different = new TreeSet<>();
        for (int line : openLines()) {
            different.add(behind(line).canonical());
        }
        return different.size();
    }

    // ---- styles

    int advice(int style) {
        need(style >= 0 && style <= 2);
        if (openLines().isEmpty()) {
            return -1;
        }
        if (style == 2 && openLines().size() <= 12) {
            return exactLine();
        }
        if (style >= 1) {
            for (int line : openLines()) {
                if (isKeeping(line)) {
                    return line;
                }
            }
        }
        for (int kind = 1; kind <= 2; kind++) {
            if (lowestOfKind(kind) >= 0) {
                return lowestOfKind(kind);
            }
        }
        int cheapest = -1;
        for (int line : openLines()) {
            if (cheapest < 0 || price(line) < price(cheapest)) {
                cheapest = line;
            }
        }
        return cheapest;
    }

    private int exactLine() {
        Map<Long, Integer> known = new HashMap<>();
        int best = -1;
        int bestWorth = 0;
        for (int line : openLines()) {
            int worth = worthBy(line, known);
            if (best < 0 || worth > bestWorth) {
                best = line;
                bestWorth = worth;
            }
        }
        return best;
    }

    private boolean isKeeping(int line) {
        if (kind(line) == 1 || lowestOfKind(1) < 0 || lowestOfKind(2) >= 0 || run() != 2
                || boxAmount() - complete() < 5) {
            return false;
        }
        ReferenceGame next = behind(line);
        for (int other : next.openLines()) {
            if (next.behind(other).complete() == next.complete() + 2) {
                return true;
            }
        }
        return false;
    }

    int playout(int zero, int one, int what) {
        need(zero >= 0 && zero <= 2 && one >= 0 && one <= 2 && what >= 0 && what <= 2);
        ReferenceGame copy = new ReferenceGame(this);
        int changes = 0;
        int last = -1;
        while (!copy.openLines().isEmpty()) {
            int before = copy.mover;
            last = copy.advice(before == 0 ? zero : one);
            copy.draw(last);
            changes += copy.mover != before ? 1 : 0;
        }
        return new int[] {copy.score(0) - copy.score(1), changes, last}[what];
    }

    double meanDifference(int games, int seed) {
        need(games >= 1 && games <= 20 && seed >= 0);
        long x = seed;
        long sum = 0;
        for (int game = 0; game < games; game++) {
            ReferenceGame copy = new ReferenceGame(this);
            while (!copy.openLines().isEmpty()) {
                x = (1103515245L * x + 12345L) % (1L << 31);
                List<Integer> open = copy.openLines();
                copy.draw(open.get((int) (x / 65536 % open.size())));
            }
            sum += copy.score(0) - copy.score(1);
        }
        return (double) sum / games;
    }

    long digest() {
        List<Long> values = new ArrayList<>();
        for (int what = 0; what <= 10; what++) {
            values.add((long) count(what));
        }
        values.add((long) score(0));
        values.add((long) score(1));
        for (int line = 0; line < linesAmount(); line++) {
            values.add((long) kind(line));
        }
        for (int move : moves) {
            values.add((long) move);
        }
        for (int box = 0; box < boxAmount(); box++) {
            values.add((long) owner(box));
            values.add((long) stringOf(box));
        }
        for (int string = 0; string < strings().size(); string++) {
            for (int what = 0; what <= 4; what++) {
                values.add((long) string(string, what));
            }
        }
        for (int what = 0; what <= 5; what++) {
            values.add((long) control(what));
        }
        if (strings().size() <= 10) {
            values.add((long) prediction());
        }
        values.add(canonical());
        values.add((long) symmetries());
        values.add((long) advice(0));
        values.add((long) advice(1));
        if (openLines().size() <= 8) {
            values.add((long) outcome());
        }
        values.add((long) buffer.length());
        for (int i = 0; i < buffer.length(); i++) {
            values.add((long) buffer.charAt(i));
        }
        long hash = 1913;
        for (long value : values) {
            hash = 31 * hash + value;
        }
        return hash;
    }
}
