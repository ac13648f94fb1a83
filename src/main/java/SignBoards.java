/**
 * Sign boards along roads, and the names that must go on from board to board until their goal.
 * The methods of the face look at every number they are given, so that the classes inside may trust theirs.
 */
public final class SignBoards {
    public static final int BAD = -1;

    private static final int FIRST_LETTER = 32;
    private static final int LAST_LETTER = 126;
    private static final int MOST_SIGNS = 100;

    private static final int MOST_NAMES = 10;
    private static final int LONGEST_NAME = 12;

    private static final int FIRST_WIDTH = 8;
    private static final int MOST_WIDTH = 64;
    private static final int MOST_KERN = 16;
    private static final int MOST_PAIRS = 60;

    private static final int MOST_SPEED = 999;
    private static final int MOST_STEPS = 5;
    private static final int MOST_DIGITS = 3;
    private static final int RULE_LETTERS = 3;

    private static final int NODES = 10;
    private static final int MOST_WAYS = 24;
    private static final int MOST_LENGTH = 100000;

    private static final int MOST_BOARDS = 8;
    private static final int MOST_LINES = 5;
    private static final int MOST_MM = 10000;
    private static final int UNITS_OF_MM = 16;

    private static final int ARROW_RIGHT = 2;
    private static final int ARROW_ITEM = 200;

    private final Text text = new Text();
    private final RuleReader reader = new RuleReader(text);
    private RuleSet inForce = new RuleSet();
    private RuleSet draft = new RuleSet();
    private final Letters letters = new Letters();
    private final Name[] names = new Name[MOST_NAMES];
    private int nameCount;
    private final Roads roads = new Roads();
    private final Board[] boards = new Board[MOST_BOARDS];
    private int boardCount;
    private final LineOrder order = new LineOrder(names, roads);
    private final Sheet sheet = new Sheet(names, letters);
    private final BreakList breakList = new BreakList(names, roads);

    public SignBoards() {
        for (int i = 0; i < MOST_NAMES; i++) {
            names[i] = new Name();
        }
        for (int i = 0; i < MOST_BOARDS; i++) {
            boards[i] = new Board();
        }
    }

    public boolean unit(int u) {
        return isLetter(u) && text.add(u);
    }

    public int rules() {
        int answer = reader.read(draft);
        text.clear();
        if (answer > 0) {
            RuleSet former = inForce;
            inForce = draft;
            draft = former;
        }
        return answer;
    }

    public int name() {
        boolean fits = text.length >= 1 && text.length <= LONGEST_NAME && nameCount < MOST_NAMES;
        int made = BAD;
        if (fits) {
            made = nameCount;
            names[made].take(text);
            nameCount++;
        }
        text.clear();
        return made;
    }

    public boolean glyph(int u, int width) {
        if (!isLetter(u) || !isWithin(width, 0, MOST_WIDTH)) {
            return false;
        }
        letters.setWidth(u, width);
        return true;
    }

    public boolean kern(int a, int b, int v) {
        return isLetter(a) && isLetter(b) && isWithin(v, -MOST_KERN, MOST_KERN) && letters.setKern(a, b, v);
    }

    public int height(int speed) {
        return isSpeed(speed) ? inForce.heightAt(speed) : BAD;
    }

    public int width(int name, int speed) {
        if (!isName(name) || !isSpeed(speed)) {
            return BAD;
        }
        return letters.fieldOf(names[name]) * inForce.heightAt(speed);
    }

    public int way(int from, int to, int length) {
        if (!isNode(from) || !isNode(to) || !isWithin(length, 1, MOST_LENGTH)) {
            return BAD;
        }
        return roads.addWay(from, to, length);
    }

    public boolean goal(int name, int node) {
        if (!isName(name) || (node != BAD && !isNode(node))) {
            return false;
        }
        names[name].goalNode = node;
        return true;
    }

    public int board(int way) {
        if (!roads.isWay(way) || boardCount >= MOST_BOARDS) {
            return BAD;
        }
        int made = boardCount;
        boards[made].standsOn = way;
        boardCount++;
        return made;
    }

    public boolean on(int board, int name, int arrow) {
        if (!isBoard(board) || !isName(name) || !isWithin(arrow, 0, ARROW_RIGHT)) {
            return false;
        }
        if (!boards[board].addLine(name, arrow)) {
            return false;
        }
        roads.show(boards[board].standsOn, name);
        return true;
    }

    public boolean wide(int board, int mm) {
        if (!isBoard(board) || !isWithin(mm, 0, MOST_MM)) {
            return false;
        }
        boards[board].leastMm = mm;
        return true;
    }

    public int row(int board, int k) {
        if (!isLine(board, k)) {
            return BAD;
        }
        order.arrange(boards[board], inForce.lineOrder);
        return boards[board].lineNames[order.lineAt(k)];
    }

    public int distance(int board, int k) {
        if (!isLine(board, k)) {
            return BAD;
        }
        order.arrange(boards[board], inForce.lineOrder);
        return order.distanceAt(k);
    }

    public int size(int board, int axis, int speed) {
        if (!isBoard(board) || !isSpeed(speed)) {
            return BAD;
        }
        sheet.lay(boards[board], inForce, speed);
        switch (axis) {
            case 0:
                return sheet.fullWidth;
            case 1:
                return sheet.fullHeight();
            default:
                return BAD;
        }
    }

    public int drawn(int board, int speed, int k, int what) {
        if (!isBoard(board) || !isSpeed(speed) || k < 0) {
            return BAD;
        }
        Board shown = boards[board];
        order.arrange(shown, inForce.lineOrder);
        sheet.lay(shown, inForce, speed);
        int item = k;
        for (int place = 0; place < shown.lines; place++) {
            int line = order.lineAt(place);
            int items = 1 + names[shown.lineNames[line]].length;
            if (item < items) {
                return sheet.itemOf(line, place, item, what);
            }
            item -= items;
        }
        return BAD;
    }

    public boolean shows(int way, int name) {
        return roads.isWay(way) && isName(name) && roads.isShown(way, name);
    }

    public int breaks(int k, int what) {
        breakList.gather(nameCount);
        return breakList.part(k, what);
    }

    public int count(int what) {
        switch (what) {
            case 0:
                return nameCount;
            case 1:
                return roads.ways;
            case 2:
                return boardCount;
            case 3:
                return letters.pairs;
            case 4:
                breakList.gather(nameCount);
                return breakList.found;
            case 5:
                return text.length;
            default:
                return BAD;
        }
    }

    private static boolean isWithin(int value, int least, int most) {
        return value >= least && value <= most;
    }

    private static boolean isLetter(int sign) {
        return isWithin(sign, FIRST_LETTER, LAST_LETTER);
    }

    private static boolean isSpeed(int speed) {
        return isWithin(speed, 1, MOST_SPEED);
    }

    private static boolean isNode(int node) {
        return isWithin(node, 0, NODES - 1);
    }

    private boolean isName(int name) {
        return isWithin(name, 0, nameCount - 1);
    }

    private boolean isBoard(int board) {
        return isWithin(board, 0, boardCount - 1);
    }

    private boolean isLine(int board, int k) {
        return isBoard(board) && isWithin(k, 0, boards[board].lines - 1);
    }

    /** The signs collected for the next rules or the next name. */
    private static final class Text {
        private final int[] signs = new int[MOST_SIGNS];
        private int length;

        boolean add(int sign) {
            if (length >= MOST_SIGNS) {
                return false;
            }
            signs[length] = sign;
            length++;
            return true;
        }

        /** BAD behind the last sign, so that a reader can look there without a test of its own. */
        int signAt(int place) {
            return place >= 0 && place < length ? signs[place] : BAD;
        }

        void clear() {
            length = 0;
        }
    }

    private static final class Name {
        private final int[] signs = new int[LONGEST_NAME];
        private int length;
        private int goalNode = BAD;

        void take(Text text) {
            length = text.length;
            for (int i = 0; i < length; i++) {
                signs[i] = text.signAt(i);
            }
        }

        boolean isBeforeByLetters(Name other) {
            int common = Math.min(length, other.length);
            for (int i = 0; i < common; i++) {
                if (signs[i] != other.signs[i]) {
                    return signs[i] < other.signs[i];
                }
            }
            return length < other.length;
        }
    }

    private static final class RuleSet {
        private final int[] speeds = new int[MOST_STEPS];
        private final int[] heights = new int[MOST_STEPS];
        private int steps;
        private int margin;
        private int gap;
        private int lineOrder;

        RuleSet() {
            setAsAtFirst();
        }

        void setAsAtFirst() {
            steps = 0;
            addStep(50, 100);
            margin = 0;
            gap = 0;
            lineOrder = 't';
        }

        void addStep(int speed, int mm) {
            if (steps < MOST_STEPS) {
                speeds[steps] = speed;
                heights[steps] = mm;
                steps++;
            }
        }

        int heightAt(int speed) {
            int mm = 0;
            for (int i = 0; i < steps; i++) {
                mm = heights[i];
                if (speeds[i] >= speed) {
                    break;
                }
            }
            return mm;
        }
    }

    /** Reads rules; where its readers fail, they leave place at the sign that is wrong. */
    private static final class RuleReader {
        private final Text text;
        private RuleSet target;
        private int place;
        private boolean heightsRead;
        private boolean marginRead;
        private boolean orderRead;

        RuleReader(Text text) {
            this.text = text;
        }

        /** How many rules there are, or - 1 less the place of the first wrong sign. */
        int read(RuleSet into) {
            target = into;
            target.setAsAtFirst();
            place = 0;
            heightsRead = false;
            marginRead = false;
            orderRead = false;
            // One round more than there are letters: that one can only fail, and finds where.
            for (int read = 1; read <= RULE_LETTERS + 1; read++) {
                if (!readRule()) {
                    break;
                }
                if (nextSign() == BAD) {
                    return read;
                }
                if (!pass(';')) {
                    break;
                }
            }
            return -1 - place;
        }

        private boolean readRule() {
            switch (nextSign()) {
                case 'h':
                    return !heightsRead && readHeights();
                case 'm':
                    return !marginRead && readMargin();
                case 'o':
                    return !orderRead && readOrder();
                default:
                    return false;
            }
        }

        private boolean readHeights() {
            heightsRead = true;
            place++;
            target.steps = 0;
            int speed = 0;
            for (int step = 0; step < MOST_STEPS; step++) {
                speed = readNumber(speed + 1);
                int mm = speed == BAD ? BAD : readNumber(1);
                if (mm == BAD) {
                    return false;
                }
                target.addStep(speed, mm);
                if (!pass(',')) {
                    return true;
                }
            }
            // Whatever follows the last comma is wrong there, be it a sixth speed or none.
            nextSign();
            return false;
        }

        private boolean readMargin() {
            marginRead = true;
            place++;
            int margin = readNumber(0);
            int gap = margin == BAD ? BAD : readNumber(0);
            if (gap == BAD) {
                return false;
            }
            target.margin = margin;
            target.gap = gap;
            return true;
        }

        private boolean readOrder() {
            orderRead = true;
            place++;
            int sign = nextSign();
            if (sign != 'n' && sign != 'f' && sign != 'a' && sign != 't') {
                return false;
            }
            target.lineOrder = sign;
            place++;
            return true;
        }

        /** BAD, with place at the first digit or at what stands there instead, if the number may not be. */
        private int readNumber(int least) {
            int first = nextSign();
            int start = place;
            int value = 0;
            while (place < MOST_SIGNS && isWithin(text.signAt(place), '0', '9')) {
                // Kept just above what three digits can tell, as a hundred digits would wrap around.
                value = Math.min(value * 10 + text.signAt(place) - '0', MOST_SPEED + 1);
                place++;
            }
            int digits = place - start;
            boolean zeroInFront = first == '0' && digits > 1;
            if (digits < 1 || digits > MOST_DIGITS || zeroInFront || value < least) {
                place = start;
                return BAD;
            }
            return value;
        }

        private boolean pass(int sign) {
            if (nextSign() != sign) {
                return false;
            }
            place++;
            return true;
        }

        private int nextSign() {
            while (place < MOST_SIGNS && text.signAt(place) == ' ') {
                place++;
            }
            return text.signAt(place);
        }
    }

    /** The widths of letters and the kerns of pairs, in sixteenths of the letters' height. */
    private static final class Letters {
        private final int[] widths = new int[LAST_LETTER - FIRST_LETTER + 1];
        private final int[] firsts = new int[MOST_PAIRS];
        private final int[] seconds = new int[MOST_PAIRS];
        private final int[] kerns = new int[MOST_PAIRS];
        private int pairs;

        Letters() {
            for (int i = 0; i < widths.length; i++) {
                widths[i] = FIRST_WIDTH;
            }
        }

        void setWidth(int letter, int width) {
            widths[letter - FIRST_LETTER] = width;
        }

        boolean setKern(int first, int second, int value) {
            int pair = pairOf(first, second);
            if (pair >= MOST_PAIRS) {
                return false;
            }
            if (pair == pairs) {
                firsts[pair] = first;
                seconds[pair] = second;
                pairs++;
            }
            kerns[pair] = value;
            return true;
        }

        int fieldOf(Name name) {
            return startOf(name, name.length);
        }

        /** Where a letter begins behind the name's left end; for the one behind the last, where the name ends. */
        int startOf(Name name, int letter) {
            int start = 0;
            for (int i = 0; i < letter; i++) {
                start += widths[name.signs[i] - FIRST_LETTER];
                if (i + 1 < name.length) {
                    start += kernOf(name.signs[i], name.signs[i + 1]);
                }
            }
            return start;
        }

        private int kernOf(int first, int second) {
            int pair = pairOf(first, second);
            return pair < pairs ? kerns[pair] : 0;
        }

        /** The number of pairs, if the pair is not among them. */
        private int pairOf(int first, int second) {
            int pair = 0;
            while (pair < pairs && (firsts[pair] != first || seconds[pair] != second)) {
                pair++;
            }
            return pair;
        }
    }

    /** The ways, what each shows, and how far nodes are from one another. */
    private static final class Roads {
        private final int[] starts = new int[MOST_WAYS];
        private final int[] ends = new int[MOST_WAYS];
        private final int[] lengths = new int[MOST_WAYS];
        // A bit for each name.
        private final int[] shown = new int[MOST_WAYS];
        private final int[] least = new int[NODES];
        private int ways;

        boolean isWay(int way) {
            return isWithin(way, 0, ways - 1);
        }

        int addWay(int from, int to, int length) {
            if (ways >= MOST_WAYS) {
                return BAD;
            }
            int made = ways;
            starts[made] = from;
            ends[made] = to;
            lengths[made] = length;
            ways++;
            return made;
        }

        void show(int way, int name) {
            shown[way] |= 1 << name;
        }

        boolean isShown(int way, int name) {
            return (shown[way] & 1 << name) != 0;
        }

        /** Fills least with the distance of each node from one, or BAD. */
        void measureFrom(int node) {
            for (int i = 0; i < NODES; i++) {
                least[i] = BAD;
            }
            least[node] = 0;
            // The shortest way to a node meets no node twice, so this many rounds find all.
            boolean changed = true;
            for (int round = 0; round < NODES && changed; round++) {
                changed = false;
                for (int way = 0; way < ways; way++) {
                    if (shortenBy(way)) {
                        changed = true;
                    }
                }
            }
        }

        private boolean shortenBy(int way) {
            int soFar = least[starts[way]];
            if (soFar == BAD) {
                return false;
            }
            int known = least[ends[way]];
            int length = soFar + lengths[way];
            if (known != BAD && known <= length) {
                return false;
            }
            least[ends[way]] = length;
            return true;
        }

        /** The nodes, a bit for each, from which ways that show the name lead to its goal. */
        int nodesLedTo(int goal, int name) {
            int nodes = 1 << goal;
            int before = 0;
            for (int round = 0; round < NODES && nodes != before; round++) {
                before = nodes;
                for (int way = 0; way < ways; way++) {
                    if (isShown(way, name) && (nodes & 1 << ends[way]) != 0) {
                        nodes |= 1 << starts[way];
                    }
                }
            }
            return nodes;
        }

        boolean isShownFrom(int node, int name) {
            for (int way = 0; way < ways; way++) {
                if (starts[way] == node && isShown(way, name)) {
                    return true;
                }
            }
            return false;
        }
    }

    /** A board with its lines as told. */
    private static final class Board {
        private final int[] lineNames = new int[MOST_LINES];
        private final int[] arrows = new int[MOST_LINES];
        private int lines;
        private int standsOn;
        private int leastMm;

        boolean addLine(int name, int arrow) {
            if (lines >= MOST_LINES || has(name)) {
                return false;
            }
            lineNames[lines] = name;
            arrows[lines] = arrow;
            lines++;
            return true;
        }

        private boolean has(int name) {
            for (int line = 0; line < lines; line++) {
                if (lineNames[line] == name) {
                    return true;
                }
            }
            return false;
        }
    }

    /** The order of one board's lines, made anew by each question, as goals and ways may have changed. */
    private static final class LineOrder {
        private final Name[] names;
        private final Roads roads;
        private final int[] sorted = new int[MOST_LINES];
        private final int[] distances = new int[MOST_LINES];

        LineOrder(Name[] names, Roads roads) {
            this.names = names;
            this.roads = roads;
        }

        void arrange(Board board, int lineOrder) {
            roads.measureFrom(roads.ends[board.standsOn]);
            for (int line = 0; line < board.lines; line++) {
                int goal = names[board.lineNames[line]].goalNode;
                distances[line] = goal == BAD ? BAD : roads.least[goal];
                insert(board, line, lineOrder);
            }
        }

        int lineAt(int place) {
            return sorted[place];
        }

        int distanceAt(int place) {
            return distances[sorted[place]];
        }

        /** Puts a line behind all that it does not strictly go before, so that like ones stay as told. */
        private void insert(Board board, int line, int lineOrder) {
            int place = line;
            while (place > 0 && goesBefore(board, line, sorted[place - 1], lineOrder)) {
                sorted[place] = sorted[place - 1];
                place--;
            }
            sorted[place] = line;
        }

        private boolean goesBefore(Board board, int line, int other, int lineOrder) {
            int own = distances[line];
            int others = distances[other];
            switch (lineOrder) {
                case 'n':
                    return own != BAD && (others == BAD || own < others);
                case 'f':
                    return own != BAD && (others == BAD || own > others);
                case 'a':
                    return names[board.lineNames[line]].isBeforeByLetters(names[board.lineNames[other]]);
                default:
                    return false;
            }
        }
    }

    /** One board's measures at one speed, in units. */
    private static final class Sheet {
        private final Name[] names;
        private final Letters letters;
        private final int[] fields = new int[MOST_LINES];
        private Board board;
        private int mm;
        private int high;
        private int margin;
        private int gap;
        private int fullWidth;

        Sheet(Name[] names, Letters letters) {
            this.names = names;
            this.letters = letters;
        }

        void lay(Board onto, RuleSet rules, int speed) {
            board = onto;
            mm = rules.heightAt(speed);
            high = mm * UNITS_OF_MM;
            margin = rules.margin * UNITS_OF_MM;
            gap = rules.gap * UNITS_OF_MM;
            int widest = 0;
            for (int line = 0; line < board.lines; line++) {
                fields[line] = letters.fieldOf(nameOf(line)) * mm;
                // Kerns may make all lines narrower than 0, so the first one is not measured against that.
                widest = line == 0 ? lineWidth(line) : Math.max(widest, lineWidth(line));
            }
            fullWidth = Math.max(widest + 2 * margin, board.leastMm * UNITS_OF_MM);
        }

        int fullHeight() {
            int gaps = Math.max(board.lines - 1, 0);
            return board.lines * high + gaps * gap + 2 * margin;
        }

        /** Item 0 of a line is its arrow, the others are its letters. */
        int itemOf(int line, int place, int item, int what) {
            switch (what) {
                case 0:
                    return item == 0 ? ARROW_ITEM + board.arrows[line] : nameOf(line).signs[item - 1];
                case 1:
                    return item == 0 ? arrowLeft(line) : letterLeft(line, item - 1);
                case 2:
                    return margin + place * (high + gap);
                default:
                    return BAD;
            }
        }

        private Name nameOf(int line) {
            return names[board.lineNames[line]];
        }

        private int lineWidth(int line) {
            return fields[line] + gap + high;
        }

        private int lineLeft(int line) {
            int rest = fullWidth - 2 * margin - lineWidth(line);
            return margin + rest / 2;
        }

        private int arrowLeft(int line) {
            int left = lineLeft(line);
            return board.arrows[line] == ARROW_RIGHT ? left + fields[line] + gap : left;
        }

        private int letterLeft(int line, int letter) {
            int left = lineLeft(line) + letters.startOf(nameOf(line), letter) * mm;
            return board.arrows[line] == ARROW_RIGHT ? left : left + high + gap;
        }
    }

    /** Where shown names break off or go round for ever, made anew by each question. */
    private static final class BreakList {
        // Each line of a board makes its way break at most once.
        private static final int MOST_BREAKS = MOST_BOARDS * MOST_LINES;
        private static final int BREAKS_OFF = 0;
        private static final int MISSES_GOAL = 1;

        private final Name[] names;
        private final Roads roads;
        private final int[] brokenNames = new int[MOST_BREAKS];
        private final int[] brokenWays = new int[MOST_BREAKS];
        private final int[] kinds = new int[MOST_BREAKS];
        private int found;

        BreakList(Name[] names, Roads roads) {
            this.names = names;
            this.roads = roads;
        }

        void gather(int nameCount) {
            found = 0;
            for (int name = 0; name < nameCount; name++) {
                if (names[name].goalNode != BAD) {
                    gatherOf(name, names[name].goalNode);
                }
            }
        }

        int part(int k, int what) {
            if (!isWithin(k, 0, found - 1)) {
                return BAD;
            }
            switch (what) {
                case 0:
                    return brokenNames[k];
                case 1:
                    return brokenWays[k];
                case 2:
                    return kinds[k];
                default:
                    return BAD;
            }
        }

        private void gatherOf(int name, int goal) {
            int nodes = roads.nodesLedTo(goal, name);
            for (int way = 0; way < roads.ways; way++) {
                int end = roads.ends[way];
                // The goal itself is among the nodes, so a way that ends there is none of these.
                if (roads.isShown(way, name) && (nodes & 1 << end) == 0) {
                    add(name, way, roads.isShownFrom(end, name) ? MISSES_GOAL : BREAKS_OFF);
                }
            }
        }

        private void add(int name, int way, int kind) {
            if (found < MOST_BREAKS) {
                brokenNames[found] = name;
                brokenWays[found] = way;
                kinds[found] = kind;
                found++;
            }
        }
    }
}
