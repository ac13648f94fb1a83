import java.util.ArrayList;
import java.util.Comparator;
import java.util.HashMap;
import java.util.HashSet;
import java.util.List;
import java.util.Map;
import java.util.Set;

/** The document once more, written with the Java library and by other means than the class. */
final class Model {
    private static final int BAD = -1;
    private static final int FAR = Integer.MAX_VALUE / 4;

    private record Way(int from, int to, int length) { }

    private record Line(int name, int arrow) { }

    private record Item(int what, int left, int top) { }

    private record Break(int name, int way, int kind) { }

    private record Token(String text, int place) { }

    private static final class Board {
        final int way;
        final List<Line> lines = new ArrayList<>();
        int wide;

        Board(int way) {
            this.way = way;
        }
    }

    private static final class Rules {
        final List<int[]> heights = new ArrayList<>();
        int margin;
        int gap;
        char order = 't';
    }

    private String text = "";
    private Rules rules = new Rules();
    private final List<String> names = new ArrayList<>();
    private final Map<Integer, Integer> goals = new HashMap<>();
    private final Map<Character, Integer> widths = new HashMap<>();
    private final Map<String, Integer> kerns = new HashMap<>();
    private final List<Way> ways = new ArrayList<>();
    private final List<Board> boards = new ArrayList<>();

    boolean unit(int u) {
        if (u < 32 || u > 126 || text.length() == 100) {
            return false;
        }
        text += (char) u;
        return true;
    }

    int rules() {
        List<Token> tokens = tokens();
        int end = text.length();
        text = "";
        Rules read = new Rules();
        Set<String> letters = new HashSet<>();
        String state = "rule";
        for (Token each : tokens) {
            state = step(state, each.text, read, letters);
            if (state.isEmpty()) {
                return -1 - each.place;
            }
        }
        if (!state.equals("behind") && !state.equals("comma")) {
            return -1 - end;
        }
        rules = read;
        return letters.size();
    }

    private List<Token> tokens() {
        List<Token> tokens = new ArrayList<>();
        for (int i = 0; i < text.length(); ) {
            int next = i + 1;
            while (Character.isDigit(text.charAt(i)) && next < text.length() && Character.isDigit(text.charAt(next))) {
                next++;
            }
            if (text.charAt(i) != ' ') {
                tokens.add(new Token(text.substring(i, next), i));
            }
            i = next;
        }
        return tokens;
    }

    /** The state behind a token; empty, if the token may not stand there. */
    private static String step(String state, String token, Rules read, Set<String> letters) {
        boolean number = token.matches("0|[1-9][0-9]{0,2}");
        switch (state) {
            case "rule":
                return token.matches("[hmo]") && letters.add(token) ? token : "";
            case "h":
                int last = read.heights.isEmpty() ? 0 : read.heights.get(read.heights.size() - 1)[0];
                if (!number || Integer.parseInt(token) <= last || read.heights.size() == 5) {
                    return "";
                }
                read.heights.add(new int[] {Integer.parseInt(token), 0});
                return "height";
            case "height":
                if (!number || token.equals("0")) {
                    return "";
                }
                read.heights.get(read.heights.size() - 1)[1] = Integer.parseInt(token);
                return "comma";
            case "comma":
                return token.equals(",") ? "h" : token.equals(";") ? "rule" : "";
            case "m":
                read.margin = number ? Integer.parseInt(token) : 0;
                return number ? "gap" : "";
            case "gap":
                read.gap = number ? Integer.parseInt(token) : 0;
                return number ? "behind" : "";
            case "o":
                read.order = token.charAt(0);
                return token.matches("[nfat]") ? "behind" : "";
            default:
                return token.equals(";") ? "rule" : "";
        }
    }

    int name() {
        String told = text;
        text = "";
        if (told.isEmpty() || told.length() > 12 || names.size() == 10) {
            return BAD;
        }
        names.add(told);
        return names.size() - 1;
    }

    boolean glyph(int u, int width) {
        if (u < 32 || u > 126 || width < 0 || width > 64) {
            return false;
        }
        widths.put((char) u, width);
        return true;
    }

    boolean kern(int a, int b, int v) {
        if (a < 32 || a > 126 || b < 32 || b > 126 || v < -16 || v > 16) {
            return false;
        }
        String pair = "" + (char) a + (char) b;
        if (!kerns.containsKey(pair) && kerns.size() == 60) {
            return false;
        }
        kerns.put(pair, v);
        return true;
    }

    int height(int speed) {
        if (speed < 1 || speed > 999) {
            return BAD;
        }
        int last = 100;
        for (int[] each : rules.heights) {
            last = each[1];
            if (speed <= each[0]) {
                return last;
            }
        }
        return last;
    }

    int width(int name, int speed) {
        return isName(name) && height(speed) != BAD ? field(names.get(name)) * height(speed) : BAD;
    }

    private int field(String letters) {
        int sum = 0;
        for (int i = 0; i < letters.length(); i++) {
            sum += widths.getOrDefault(letters.charAt(i), 8);
            sum += i == 0 ? 0 : kerns.getOrDefault(letters.substring(i - 1, i + 1), 0);
        }
        return sum;
    }

    int way(int from, int to, int length) {
        if (from < 0 || from > 9 || to < 0 || to > 9 || length < 1 || length > 100000 || ways.size() == 24) {
            return BAD;
        }
        ways.add(new Way(from, to, length));
        return ways.size() - 1;
    }

    boolean goal(int name, int node) {
        if (!isName(name) || node < -1 || node > 9) {
            return false;
        }
        goals.put(name, node);
        return true;
    }

    int board(int way) {
        if (way < 0 || way >= ways.size() || boards.size() == 8) {
            return BAD;
        }
        boards.add(new Board(way));
        return boards.size() - 1;
    }

    boolean on(int board, int name, int arrow) {
        if (!isBoard(board) || !isName(name) || arrow < 0 || arrow > 2) {
            return false;
        }
        List<Line> lines = boards.get(board).lines;
        if (lines.size() == 5 || lines.stream().anyMatch(line -> line.name == name)) {
            return false;
        }
        return lines.add(new Line(name, arrow));
    }

    boolean wide(int board, int mm) {
        if (!isBoard(board) || mm < 0 || mm > 10000) {
            return false;
        }
        boards.get(board).wide = mm;
        return true;
    }

    int row(int board, int k) {
        return isLine(board, k) ? inOrder(board).get(k).name : BAD;
    }

    int distance(int board, int k) {
        if (!isLine(board, k)) {
            return BAD;
        }
        int far = far(board, inOrder(board).get(k));
        return far >= FAR ? BAD : far;
    }

    private List<Line> inOrder(int board) {
        List<Line> lines = new ArrayList<>(boards.get(board).lines);
        Comparator<Line> lost = Comparator.comparing(line -> far(board, line) >= FAR);
        Comparator<Line> near = Comparator.comparing(line -> far(board, line));
        switch (rules.order) {
            case 'n':
                lines.sort(near);
                break;
            case 'f':
                lines.sort(lost.thenComparing(near.reversed()));
                break;
            case 'a':
                lines.sort(Comparator.comparing(line -> names.get(line.name)));
                break;
            default:
                break;
        }
        return lines;
    }

    private int far(int board, Line line) {
        int goal = goals.getOrDefault(line.name, BAD);
        return goal == BAD ? FAR : allDistances()[ways.get(boards.get(board).way).to][goal];
    }

    private int[][] allDistances() {
        int[][] far = new int[10][10];
        for (int a = 0; a < 10; a++) {
            for (int b = 0; b < 10; b++) {
                far[a][b] = a == b ? 0 : FAR;
            }
        }
        for (Way each : ways) {
            far[each.from][each.to] = Math.min(far[each.from][each.to], each.length);
        }
        for (int via = 0; via < 10; via++) {
            for (int a = 0; a < 10; a++) {
                for (int b = 0; b < 10; b++) {
                    far[a][b] = Math.min(far[a][b], Math.min(FAR, far[a][via] + far[via][b]));
                }
            }
        }
        return far;
    }

    int size(int board, int axis, int speed) {
        if (!isBoard(board) || axis < 0 || axis > 1 || height(speed) == BAD) {
            return BAD;
        }
        List<Line> lines = boards.get(board).lines;
        int margins = 32 * rules.margin;
        if (axis == 1) {
            return lines.isEmpty() ? margins
                : margins + 16 * (lines.size() * (height(speed) + rules.gap) - rules.gap);
        }
        int widest = lines.stream().mapToInt(line -> lineWidth(line, speed)).max().orElse(0);
        return Math.max(margins + widest, 16 * boards.get(board).wide);
    }

    private int lineWidth(Line line, int speed) {
        return width(line.name, speed) + 16 * height(speed) + 16 * rules.gap;
    }

    int drawn(int board, int speed, int k, int what) {
        if (!isBoard(board) || height(speed) == BAD || what < 0 || what > 2) {
            return BAD;
        }
        List<Item> items = items(board, speed);
        if (k < 0 || k >= items.size()) {
            return BAD;
        }
        Item item = items.get(k);
        return what == 0 ? item.what : what == 1 ? item.left : item.top;
    }

    private List<Item> items(int board, int speed) {
        List<Item> items = new ArrayList<>();
        int high = 16 * height(speed);
        int gap = 16 * rules.gap;
        int top = 16 * rules.margin;
        for (Line line : inOrder(board)) {
            int spare = size(board, 0, speed) - 32 * rules.margin - lineWidth(line, speed);
            int left = 16 * rules.margin + Math.floorDiv(spare, 2);
            int arrow = line.arrow == 2 ? left + width(line.name, speed) + gap : left;
            items.add(new Item(200 + line.arrow, arrow, top));
            int start = line.arrow == 2 ? left : left + high + gap;
            String letters = names.get(line.name);
            for (int i = 0; i < letters.length(); i++) {
                int behind = field(letters.substring(0, i + 1)) - widths.getOrDefault(letters.charAt(i), 8);
                items.add(new Item(letters.charAt(i), start + behind * height(speed), top));
            }
            top += high + gap;
        }
        return items;
    }

    boolean shows(int way, int name) {
        return boards.stream()
            .anyMatch(board -> board.way == way && board.lines.stream().anyMatch(line -> line.name == name));
    }

    int breaks(int k, int what) {
        List<Break> all = allBreaks();
        if (k < 0 || k >= all.size() || what < 0 || what > 2) {
            return BAD;
        }
        Break one = all.get(k);
        return what == 0 ? one.name : what == 1 ? one.way : one.kind;
    }

    private List<Break> allBreaks() {
        List<Break> all = new ArrayList<>();
        for (int name = 0; name < names.size(); name++) {
            int goal = goals.getOrDefault(name, BAD);
            for (int way = 0; goal != BAD && way < ways.size(); way++) {
                int end = ways.get(way).to;
                if (!shows(way, name) || end == goal) {
                    continue;
                }
                Set<Integer> met = new HashSet<>();
                boolean goesOn = walk(end, name, met);
                if (!goesOn) {
                    all.add(new Break(name, way, 0));
                } else if (!met.contains(goal)) {
                    all.add(new Break(name, way, 1));
                }
            }
        }
        return all;
    }

    /** Meets all nodes that ways showing the name lead to; whether there is such a way at all. */
    private boolean walk(int node, int name, Set<Integer> met) {
        boolean goesOn = false;
        for (int way = 0; way < ways.size(); way++) {
            if (ways.get(way).from == node && shows(way, name)) {
                goesOn = true;
                if (met.add(ways.get(way).to)) {
                    walk(ways.get(way).to, name, met);
                }
            }
        }
        return goesOn;
    }

    int count(int what) {
        int[] counts = {
            names.size(), ways.size(), boards.size(), kerns.size(), allBreaks().size(), text.length(),
        };
        return what < 0 || what > 5 ? BAD : counts[what];
    }

    private boolean isName(int name) {
        return name >= 0 && name < names.size();
    }

    private boolean isBoard(int board) {
        return board >= 0 && board < boards.size();
    }

    private boolean isLine(int board, int k) {
        return isBoard(board) && k >= 0 && k < boards.get(board).lines.size();
    }
}
