/** The edges of promises 9 to 12, 14 and 15, sentence by sentence: ways, goals, boards, lines and their order. */
public final class RoadEdgesTest {
    private static final int BAD = SignBoards.BAD;

    private static final Check CHECK = new Check();

    public static void main(String[] args) {
        nodesOfWays();
        lengths();
        mostWays();
        goals();
        namesWithGoals();
        noGoal();
        waysWithBoards();
        mostBoards();
        arrows();
        boardsWithLines();
        namesOnce();
        mostLines();
        refusedLines();
        rows();
        rowsThatAreNot();
        leastLength();
        noDistance();
        farthest();
        lastWithoutOne();
        likeOnes();
        byLetters();
        asTold();
        CHECK.finish();
    }

    private static void ways(SignBoards x, int[]... ways) {
        for (int[] each : ways) {
            x.way(each[0], each[1], each[2]);
        }
    }

    private static int[] way(int from, int to, int length) {
        return new int[] {from, to, length};
    }

    private static void nodesOfWays() {
        CHECK.sentence("NODES 0 .. 9 are joined by WAYS .., each from one to another one, or to itself");
        for (int from = -3; from <= 13; from++) {
            for (int to = -3; to <= 13; to++) {
                SignBoards x = new SignBoards();
                boolean may = from >= 0 && from <= 9 && to >= 0 && to <= 9;
                CHECK.due("way " + from + " - " + to, x.way(from, to, 1), may ? 0 : BAD);
                CHECK.due("ways behind it", x.count(1), may ? 1 : 0);
            }
        }
        for (int bad : Check.outside(0, 9)) {
            CHECK.due("way from " + bad, new SignBoards().way(bad, 0, 1), BAD);
            CHECK.due("way to " + bad, new SignBoards().way(0, bad, 1), BAD);
        }
    }

    private static void lengths() {
        CHECK.sentence("One more way, with a length 1 .. 100,000");
        for (int length : new int[] {1, 2, 65536, 99999, 100000}) {
            SignBoards x = Scene.board("", 0, "N");
            CHECK.due("length " + length, x.way(1, 2, length), 1);
            x.goal(0, 2);
            CHECK.due("distance along it", x.distance(0, 0), length);
        }
        for (int bad : Check.outside(1, 100000)) {
            SignBoards x = Scene.board("", 0, "N");
            CHECK.due("length " + bad, x.way(1, 2, bad), BAD);
            CHECK.due("ways behind it", x.count(1), 1);
            x.goal(0, 2);
            CHECK.due("distance without it", x.distance(0, 0), BAD);
        }
    }

    private static void mostWays() {
        CHECK.sentence("WAYS (at most 24) .. which one. BAD: .. there are 24.");
        SignBoards x = new SignBoards();
        for (int i = 0; i < 24; i++) {
            CHECK.due("way number " + (i + 1), x.way(0, 1, 5), i);
            CHECK.due("ways behind it", x.count(1), i + 1);
        }
        CHECK.due("way number 25", x.way(1, 2, 5), BAD);
        CHECK.due("way number 25, as another one", x.way(0, 1, 5), BAD);
        CHECK.due("ways", x.count(1), 24);
        CHECK.due("a board on number 25", x.board(24), BAD);
        CHECK.due("a board on number 24", x.board(23), 0);
        x.on(0, Check.name(x, "N"), 0);
        x.goal(0, 2);
        CHECK.due("no distance along number 25", x.distance(0, 0), BAD);
        CHECK.due("number 24 shows it", x.shows(23, 0), true);
        CHECK.due("number 25 does not", x.shows(24, 0), false);
        SignBoards y = new SignBoards();
        for (int i = 0; i < 23; i++) {
            y.way(9, 9, 1);
        }
        y.way(0, 1, 5);
        y.board(0);
        y.board(23);
        y.on(1, Check.name(y, "N"), 0);
        y.goal(0, 1);
        CHECK.due("the last way is one", y.distance(1, 0), 0);
    }

    private static void goals() {
        CHECK.sentence("A name's goal; BAD as the node: it has none. False: none such.");
        for (int node = -5; node <= 15; node++) {
            SignBoards x = Scene.board("", 0, "N");
            boolean may = node >= -1 && node <= 9;
            CHECK.due("goal " + node, x.goal(0, node), may);
            CHECK.due("distance behind it", x.distance(0, 0), node == 1 ? 0 : BAD);
        }
        for (int node = 0; node <= 9; node++) {
            SignBoards x = Scene.board("", 0, "N");
            x.way(1, node, 3);
            x.goal(0, node);
            CHECK.due("distance of node " + node, x.distance(0, 0), node == 1 ? 0 : 3);
            for (int bad : new int[] {Integer.MIN_VALUE, -2, 10, Integer.MAX_VALUE}) {
                CHECK.due("goal " + bad, x.goal(0, bad), false);
            }
            CHECK.due("distance as it was", x.distance(0, 0), node == 1 ? 0 : 3);
        }
    }

    private static void namesWithGoals() {
        CHECK.sentence("A name's goal .. False: none such.");
        for (int names = 0; names <= 10; names++) {
            SignBoards x = new SignBoards();
            for (int i = 0; i < names; i++) {
                Check.name(x, "N");
            }
            for (int name = -2; name <= 11; name++) {
                CHECK.due("goal of name " + name + " of " + names, x.goal(name, 1), name >= 0 && name < names);
                CHECK.due("no goal of name " + name + " of " + names, x.goal(name, BAD), name >= 0 && name < names);
            }
            for (int bad : Check.outside(0, names - 1)) {
                CHECK.due("goal of name " + bad + " of " + names, x.goal(bad, 1), false);
            }
        }
        SignBoards x = Scene.board("", 0, "A", "B");
        x.goal(0, 1);
        CHECK.due("the other one's is not set", x.distance(0, 1), BAD);
        x.goal(1, 1);
        x.goal(0, BAD);
        CHECK.due("the other one's stays", x.distance(0, 1), 0);
        x.goal(2, 1);
        Check.name(x, "C");
        x.on(0, 2, 0);
        CHECK.due("a refused goal is not kept for a later name", x.distance(0, 2), BAD);
    }

    private static void noGoal() {
        CHECK.sentence("BAD as the node: it has none");
        SignBoards x = Scene.road(3, 1, 3);
        CHECK.due("distance", x.distance(0, 0), 2);
        CHECK.due("breaks", x.count(4), 1);
        CHECK.due("no goal", x.goal(0, BAD), true);
        CHECK.due("distance behind it", x.distance(0, 0), BAD);
        CHECK.due("breaks behind it", x.count(4), 0);
        CHECK.due("no goal again", x.goal(0, BAD), true);
        CHECK.due("a goal again", x.goal(0, 2), true);
        CHECK.due("distance behind that", x.distance(0, 0), 1);
    }

    private static void waysWithBoards() {
        CHECK.sentence("One more board, on a way: which one. BAD: none such");
        for (int ways = 0; ways <= 24; ways++) {
            for (int way : new int[] {Integer.MIN_VALUE, -1, 0, ways - 1, ways, ways + 1, 24, Integer.MAX_VALUE}) {
                SignBoards x = new SignBoards();
                for (int i = 0; i < ways; i++) {
                    x.way(0, 1, 1);
                }
                boolean may = way >= 0 && way < ways;
                CHECK.due("board on way " + way + " of " + ways, x.board(way), may ? 0 : BAD);
                CHECK.due("boards behind it", x.count(2), may ? 1 : 0);
            }
        }
    }

    private static void mostBoards() {
        CHECK.sentence("A BOARD (at most 8) stands on a way (several may stand on one) .. BAD: .. there are 8.");
        for (int ways = 1; ways <= 8; ways += 7) {
            SignBoards x = new SignBoards();
            for (int way = 0; way < 9; way++) {
                x.way(way, way + 1, 1);
            }
            Check.name(x, "N");
            for (int i = 0; i < 8; i++) {
                CHECK.due("board number " + (i + 1), x.board(i % ways), i);
                CHECK.due("boards behind it", x.count(2), i + 1);
                CHECK.due("a line of it", x.on(i, 0, 0), true);
                CHECK.due("it is shown", x.shows(i % ways, 0), true);
            }
            CHECK.due("board number 9", x.board(8), BAD);
            CHECK.due("board number 9 beside another", x.board(0), BAD);
            CHECK.due("boards", x.count(2), 8);
            CHECK.due("a line of number 9", x.on(8, 0, 0), false);
            CHECK.due("nothing is shown there", x.shows(8, 0), false);
        }
    }

    private static void arrows() {
        CHECK.sentence("an ARROW: 0 left, 1 ahead, 2 right");
        for (int arrow = -3; arrow <= 6; arrow++) {
            SignBoards x = Scene.board("", 0);
            Check.name(x, "N");
            boolean may = arrow >= 0 && arrow <= 2;
            CHECK.due("arrow " + arrow, x.on(0, 0, arrow), may);
            CHECK.due("drawn behind it", x.drawn(0, 1, 0, 0), may ? 200 + arrow : BAD);
            CHECK.due("shown behind it", x.shows(0, 0), may);
        }
        for (int bad : Check.outside(0, 2)) {
            SignBoards x = Scene.board("", 0);
            Check.name(x, "N");
            CHECK.due("arrow " + bad, x.on(0, 0, bad), false);
            CHECK.due("no line behind it", x.row(0, 0), BAD);
            CHECK.due("a line with a good one", x.on(0, 0, 1), true);
            CHECK.due("its row", x.row(0, 0), 0);
        }
    }

    private static void boardsWithLines() {
        CHECK.sentence("A line of a board. False: none such");
        for (int there = 0; there <= 8; there += 4) {
            SignBoards x = new SignBoards();
            x.way(0, 1, 1);
            for (int i = 0; i < there; i++) {
                x.board(0);
                Check.name(x, "N");
            }
            for (int each = -1; each <= 9; each++) {
                boolean is = each >= 0 && each < there;
                CHECK.due("name " + each + " of " + there, x.on(0, each, 0), is && each < 5);
                CHECK.due("board " + each + " of " + there, x.on(each, 0, 0), is && each > 0);
            }
            for (int bad : Check.outside(0, there - 1)) {
                CHECK.due("name " + bad + " of " + there, x.on(there / 2, bad, 0), false);
                CHECK.due("board " + bad + " of " + there, x.on(bad, there / 2, 0), false);
            }
        }
    }

    private static void namesOnce() {
        CHECK.sentence("each a name, once at most .. False: .. it has the name");
        SignBoards x = Scene.board("", 0, "A", "A");
        x.board(0);
        for (int arrow = 0; arrow <= 2; arrow++) {
            CHECK.due("the first name again with arrow " + arrow, x.on(0, 0, arrow), false);
            CHECK.due("the second name again with arrow " + arrow, x.on(0, 1, arrow), false);
        }
        CHECK.due("two lines", x.row(0, 2), BAD);
        CHECK.due("the first arrow as it was", x.drawn(0, 1, 0, 0), 200);
        CHECK.due("on another board of the way", x.on(1, 0, 2), true);
        CHECK.due("it has a line", x.row(1, 0), 0);
        CHECK.due("a like name is another one", x.on(1, 1, 2), true);
    }

    private static void mostLines() {
        CHECK.sentence("LINES (at most 5) .. False: .. it has .. five lines");
        SignBoards x = Scene.board("", 0);
        x.board(0);
        for (int i = 0; i < 10; i++) {
            Check.name(x, "N");
        }
        for (int i = 0; i < 5; i++) {
            CHECK.due("no line number " + (i + 1) + " yet", x.row(0, i), BAD);
            CHECK.due("line number " + (i + 1), x.on(0, i + 2, 0), true);
            CHECK.due("its name", x.row(0, i), i + 2);
        }
        for (int name = 0; name < 10; name++) {
            CHECK.due("line number 6 with name " + name, x.on(0, name, 0), false);
            CHECK.due("shown", x.shows(0, name), name >= 2 && name < 7);
        }
        CHECK.due("no line number 6", x.row(0, 5), BAD);
        CHECK.due("five lines high", x.size(0, 1, 1), 5 * 1600);
        CHECK.due("a line of the other board", x.on(1, 0, 0), true);
    }

    private static void refusedLines() {
        CHECK.sentence("A line of a board. False: none such");
        SignBoards x = Scene.board("", 1, "A");
        Check.name(x, "B");
        for (int bad : Check.outside(0, 2)) {
            x.on(0, 1, bad);
        }
        for (int bad : Check.outside(0, 1)) {
            x.on(0, bad, 0);
        }
        for (int bad : Check.outside(0, 0)) {
            x.on(bad, 1, 0);
        }
        CHECK.due("one line", x.row(0, 1), BAD);
        CHECK.due("it is as it was", x.drawn(0, 1, 0, 0), 201);
        CHECK.due("the other name is not shown", x.shows(0, 1), false);
        CHECK.due("there is room for it", x.on(0, 1, 2), true);
    }

    private static void rows() {
        CHECK.sentence("The k-th name on a board, in order. BAD: none such.");
        for (int lines = 0; lines <= 5; lines++) {
            SignBoards x = Scene.board("", 0, "A", "B", "C", "D", "E");
            x.board(0);
            for (int i = 0; i < lines; i++) {
                x.on(1, 4 - i, 0);
            }
            for (int k = -2; k <= 6; k++) {
                boolean is = k >= 0 && k < lines;
                CHECK.due("row " + k + " of " + lines, x.row(1, k), is ? 4 - k : BAD);
            }
            for (int bad : Check.outside(0, lines - 1)) {
                CHECK.due("row " + bad + " of " + lines, x.row(1, bad), BAD);
                CHECK.due("distance " + bad + " of " + lines, x.distance(1, bad), BAD);
            }
        }
    }

    private static void rowsThatAreNot() {
        CHECK.sentence("The distance of the k-th line, in order. BAD: it has none; none such.");
        SignBoards x = Scene.board("", 0, "A");
        x.goal(0, 1);
        CHECK.due("row of board 0", x.row(0, 0), 0);
        CHECK.due("distance of board 0", x.distance(0, 0), 0);
        for (int bad : Check.outside(0, 0)) {
            CHECK.due("row of board " + bad, x.row(bad, 0), BAD);
            CHECK.due("distance of board " + bad, x.distance(bad, 0), BAD);
            CHECK.due("row " + bad, x.row(0, bad), BAD);
            CHECK.due("distance " + bad, x.distance(0, bad), BAD);
        }
    }

    private static void leastLength() {
        CHECK.sentence("the least length of ways from where the board's way ends to the name's goal");
        SignBoards x = Scene.board("", 0, "N");
        x.goal(0, 1);
        CHECK.due("where the board's way ends", x.distance(0, 0), 0);
        x.goal(0, 3);
        ways(x, way(1, 3, 10));
        CHECK.due("along one way", x.distance(0, 0), 10);
        ways(x, way(1, 3, 11));
        CHECK.due("not along a longer one", x.distance(0, 0), 10);
        ways(x, way(1, 2, 4), way(2, 3, 6));
        CHECK.due("as far along two", x.distance(0, 0), 10);
        ways(x, way(2, 3, 5));
        CHECK.due("shorter along two", x.distance(0, 0), 9);
        ways(x, way(1, 3, 8));
        CHECK.due("shorter along one", x.distance(0, 0), 8);
        ways(x, way(2, 4, 1), way(4, 3, 2));
        CHECK.due("shorter along three", x.distance(0, 0), 7);
        ways(x, way(1, 1, 1), way(3, 3, 1), way(3, 1, 1));
        CHECK.due("not along a round way", x.distance(0, 0), 7);
        x.goal(0, 0);
        CHECK.due("not back along the board's way", x.distance(0, 0), BAD);
        ways(x, way(4, 0, 3));
        CHECK.due("back along others", x.distance(0, 0), 4 + 1 + 3);
        x.goal(0, 2);
        CHECK.due("another goal", x.distance(0, 0), 4);
        SignBoards y = new SignBoards();
        ways(y, way(1, 2, 6), way(0, 1, 9), way(2, 3, 7));
        y.board(1);
        y.on(0, Check.name(y, "N"), 0);
        y.goal(0, 3);
        CHECK.due("along the first and the last way", y.distance(0, 0), 6 + 7);
    }

    private static void noDistance() {
        CHECK.sentence("BAD: it has none");
        SignBoards x = Scene.board("", 0, "N");
        CHECK.due("no goal", x.distance(0, 0), BAD);
        for (int node = 0; node <= 9; node++) {
            x.goal(0, node);
            CHECK.due("goal " + node, x.distance(0, 0), node == 1 ? 0 : BAD);
        }
        ways(x, way(9, 1, 1), way(0, 9, 1));
        CHECK.due("ways lead only from it", x.distance(0, 0), BAD);
        ways(x, way(1, 9, 7));
        CHECK.due("a way leads to it", x.distance(0, 0), 7);
    }

    private static void farthest() {
        CHECK.sentence("NODES 0 .. 9 .. with a LENGTH");
        for (boolean fromFarEnd : new boolean[] {false, true}) {
            SignBoards x = new SignBoards();
            x.way(0, 0, 1);
            x.board(0);
            x.on(0, Check.name(x, "N"), 0);
            for (int i = 0; i < 9; i++) {
                int node = fromFarEnd ? 8 - i : i;
                x.way(node, node + 1, 100000);
            }
            for (int node = 0; node <= 9; node++) {
                x.goal(0, node);
                CHECK.due("distance of node " + node, x.distance(0, 0), 100000 * node);
            }
        }
    }

    private static void dueRows(String what, SignBoards x, int... want) {
        for (int k = 0; k < want.length; k++) {
            CHECK.due(what + ", row " + k, x.row(0, k), want[k]);
        }
        CHECK.due(what + ", behind the last row", x.row(0, want.length), BAD);
    }

    /** Lines in the order of their names; the distance of node n is n - 1, nodes 0 and 9 have none. */
    private static SignBoards goals(String rules, int... goals) {
        SignBoards x = Scene.board(rules, 0);
        for (int node = 1; node < 8; node++) {
            x.way(node, node + 1, 1);
        }
        for (int i = 0; i < goals.length; i++) {
            x.on(0, Check.name(x, "N"), 0);
            x.goal(i, goals[i]);
        }
        return x;
    }

    private static void lastWithoutOne() {
        CHECK.sentence("nearest goal first, farthest first .. lines without one stand last (in f, too)");
        dueRows("n, no lines", goals("o n"));
        dueRows("f, no lines", goals("o f"));
        dueRows("n, all have one", goals("o n", 5, 1, 8, 2, 4), 1, 3, 4, 0, 2);
        dueRows("f, all have one", goals("o f", 5, 1, 8, 2, 4), 2, 0, 4, 3, 1);
        dueRows("n, one has none", goals("o n", BAD, 8, 1), 2, 1, 0);
        dueRows("f, one has none", goals("o f", BAD, 1, 8), 2, 1, 0);
        dueRows("n, one can't be come to", goals("o n", 9, 8, 1), 2, 1, 0);
        dueRows("f, one can't be come to", goals("o f", 9, 1, 8), 2, 1, 0);
        dueRows("n, both kinds have none", goals("o n", 9, BAD, 3, 0, 1), 4, 2, 0, 1, 3);
        dueRows("f, both kinds have none", goals("o f", BAD, 9, 1, 0, 3), 4, 2, 0, 1, 3);
        dueRows("n, none has one", goals("o n", BAD, 9, 0, BAD, 9), 0, 1, 2, 3, 4);
        dueRows("f, none has one", goals("o f", BAD, 9, 0, BAD, 9), 0, 1, 2, 3, 4);
        dueRows("n, only one has one", goals("o n", BAD, 9, 0, BAD, 1), 4, 0, 1, 2, 3);
        dueRows("f, only one has one", goals("o f", BAD, 9, 0, BAD, 1), 4, 0, 1, 2, 3);
        SignBoards x = goals("o f", BAD, 1, 8);
        int[] want = {7, 0, BAD, BAD};
        for (int k = 0; k < want.length; k++) {
            CHECK.due("f, distance " + k, x.distance(0, k), want[k]);
        }
    }

    private static void likeOnes() {
        CHECK.sentence("Like ones stand as told.");
        dueRows("n, all alike", goals("o n", 3, 3, 3, 3, 3), 0, 1, 2, 3, 4);
        dueRows("f, all alike", goals("o f", 3, 3, 3, 3, 3), 0, 1, 2, 3, 4);
        dueRows("n, pairs", goals("o n", 4, 2, 4, 2, 1), 4, 1, 3, 0, 2);
        dueRows("f, pairs", goals("o f", 2, 4, 2, 4, 1), 1, 3, 0, 2, 4);
        SignBoards x = Scene.board("o a", 0);
        for (int i = 0; i < 5; i++) {
            Check.name(x, i % 2 == 0 ? "b" : "a");
        }
        for (int i = 4; i >= 0; i--) {
            x.on(0, i, 0);
        }
        dueRows("a, told from the last name on", x, 3, 1, 4, 2, 0);
    }

    private static void byLetters() {
        CHECK.sentence("by their letters (sign by sign; what ends first first)");
        // Each one stands before the next.
        String[] rising = {
            " ", "  ", " ~", "!", "09", "1", "A", "A ", "AA", "AB", "Z", "a", "aa", "aaaaaaaaaaa", "aaaaaaaaaaaa",
            "aaaaaaaaaaab", "ab", "~", "~ ", "~~~~~~~~~~~", "~~~~~~~~~~~~",
        };
        for (int first = 0; first < rising.length; first++) {
            for (int second = 0; second < rising.length; second++) {
                SignBoards x = Scene.board("o a", 0, rising[first], rising[second]);
                int want = second < first ? 1 : 0;
                CHECK.due("'" + rising[first] + "' beside '" + rising[second] + "'", x.row(0, 0), want);
            }
        }
        dueRows("five names", Scene.board("o a", 0, "ba", "b", "ab", "a", "aa"), 3, 4, 2, 1, 0);
        SignBoards x = Scene.board("o a", 0, "b", "a");
        x.goal(0, 1);
        dueRows("a goal is of no weight", x, 1, 0);
    }

    private static void asTold() {
        CHECK.sentence("the order of names on a board: .. as told (at first)");
        for (String rules : new String[] {"", "o t", "m 1 2"}) {
            dueRows("'" + rules + "'", goals(rules, 8, BAD, 1, 9, 3), 0, 1, 2, 3, 4);
            SignBoards x = Scene.board(rules, 0);
            for (String each : new String[] {"c", "b", "a"}) {
                Check.name(x, each);
            }
            x.on(0, 1, 0);
            x.on(0, 2, 0);
            x.on(0, 0, 0);
            dueRows("'" + rules + "'", x, 1, 2, 0);
        }
    }
}
