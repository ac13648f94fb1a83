/** The edges of promises 18 to 20, sentence by sentence: shown names, breaks and counts. */
public final class BreakEdgesTest {
    private static final int BAD = SignBoards.BAD;
    private static final int MOST_CALLS = 512;

    private static final Check CHECK = new Check();

    public static void main(String[] args) {
        shownByABoard();
        shownThatAreNot();
        endsAtItsGoal();
        noWayGoesOn();
        otherWaysGoOn();
        goalNotComeTo();
        roundForEver();
        goalAsABeginning();
        longRoads();
        withoutGoal();
        goalsThatChange();
        nameByName();
        onceForEachWay();
        breaksThatAreNot();
        parts();
        allBreaks();
        counts();
        countsOfNoneAndAll();
        lastCall();
        CHECK.finish();
    }

    private static void dueBreaks(String what, SignBoards x, int[]... want) {
        CHECK.due(what + ", count", x.count(4), want.length);
        for (int k = 0; k < want.length; k++) {
            for (int part = 0; part < 3; part++) {
                CHECK.due(what + ", part " + part + " of break " + k, x.breaks(k, part), want[k][part]);
            }
        }
        CHECK.due(what + ", behind the last", x.breaks(want.length, 0), BAD);
    }

    private static int[] one(int name, int way, int kind) {
        return new int[] {name, way, kind};
    }

    /** Puts up a board on the way with the name on it. */
    private static void show(SignBoards x, int way, int name) {
        x.on(x.board(way), name, 0);
    }

    private static SignBoards roads(int goal, int[]... fromTo) {
        SignBoards x = new SignBoards();
        Check.name(x, "N");
        x.goal(0, goal);
        for (int[] each : fromTo) {
            x.way(each[0], each[1], 1);
        }
        return x;
    }

    private static int[] way(int from, int to) {
        return new int[] {from, to};
    }

    private static void shownByABoard() {
        CHECK.sentence("SHOWN is a name on a way, if a board there has it.");
        SignBoards x = new SignBoards();
        Check.name(x, "A");
        Check.name(x, "A");
        x.way(0, 1, 1);
        x.way(0, 1, 1);
        CHECK.due("no board", x.shows(0, 0), false);
        x.board(0);
        CHECK.due("a board without lines", x.shows(0, 0), false);
        x.on(0, 0, 0);
        CHECK.due("a board with it", x.shows(0, 0), true);
        CHECK.due("a like name", x.shows(0, 1), false);
        CHECK.due("a like way", x.shows(1, 0), false);
        x.board(0);
        CHECK.due("another board, without it", x.shows(0, 0), true);
        x.on(1, 1, 0);
        CHECK.due("another board, with the other", x.shows(0, 1), true);
        CHECK.due("the first name still", x.shows(0, 0), true);
        x.on(1, 0, 0);
        CHECK.due("both boards", x.shows(0, 0), true);
        x.goal(0, 5);
        CHECK.due("with a goal", x.shows(0, 0), true);
    }

    private static void shownThatAreNot() {
        CHECK.sentence("Whether a name is shown on a way. False also: none such.");
        for (int there = 0; there <= 8; there += 2) {
            SignBoards x = new SignBoards();
            for (int i = 0; i < there; i++) {
                Check.name(x, "N");
                x.way(0, 1, 1);
                show(x, i, i);
            }
            for (int way = -1; way <= 10; way++) {
                for (int name = -1; name <= 10; name++) {
                    boolean is = way == name && way >= 0 && way < there;
                    CHECK.due("way " + way + ", name " + name + " of " + there, x.shows(way, name), is);
                }
            }
            for (int bad : Check.outside(0, there - 1)) {
                CHECK.due("way " + bad + " of " + there, x.shows(bad, 0), false);
                CHECK.due("name " + bad + " of " + there, x.shows(0, bad), false);
                CHECK.due("way and name " + bad + " of " + there, x.shows(bad, bad), false);
            }
        }
        SignBoards full = Scene.full();
        CHECK.due("the last name on the last way", full.shows(23, 9), true);
        CHECK.due("the name behind the last", full.shows(23, 10), false);
        CHECK.due("32 behind the last name", full.shows(23, 9 + 32), false);
        CHECK.due("the way behind the last", full.shows(24, 9), false);
    }

    private static void endsAtItsGoal() {
        CHECK.sentence("A way that shows it, and ends elsewhere than at its goal, BREAKS");
        for (int node = 0; node <= 9; node++) {
            SignBoards x = roads(node, way(0, 5));
            dueBreaks("goal " + node + ", not shown", x);
            show(x, 0, 0);
            if (node == 5) {
                dueBreaks("it ends at its goal", x);
            } else {
                dueBreaks("goal " + node, x, one(0, 0, 0));
            }
        }
        SignBoards x = roads(5, way(0, 5), way(5, 6));
        show(x, 0, 0);
        dueBreaks("a way goes on from its goal, and does not show it", x);
        show(x, 1, 0);
        dueBreaks("a way goes on from its goal, and shows it", x, one(0, 1, 0));
        SignBoards y = roads(5, way(5, 5));
        show(y, 0, 0);
        dueBreaks("round from its goal to its goal", y);
    }

    private static void noWayGoesOn() {
        CHECK.sentence("kind 0, if no way that begins there shows it");
        SignBoards x = roads(3, way(0, 1));
        show(x, 0, 0);
        dueBreaks("no way begins there", x, one(0, 0, 0));
        x.way(1, 3, 1);
        dueBreaks("the way that begins there does not show it", x, one(0, 0, 0));
        Check.name(x, "M");
        show(x, 1, 1);
        dueBreaks("it shows another", x, one(0, 0, 0));
        x.way(1, 1, 1);
        x.way(1, 3, 1);
        dueBreaks("none of three shows it", x, one(0, 0, 0));
        show(x, 3, 0);
        dueBreaks("the last of them shows it", x);
    }

    private static void otherWaysGoOn() {
        CHECK.sentence("kind 0, if no way that begins there shows it");
        SignBoards x = roads(3, way(0, 1), way(2, 1), way(0, 3), way(2, 3));
        for (int way = 0; way < 4; way++) {
            show(x, way, 0);
        }
        dueBreaks("ways that end there, or begin elsewhere, show it", x, one(0, 0, 0), one(0, 1, 0));
    }

    private static void goalNotComeTo() {
        CHECK.sentence("kind 1, if from there, by ways that show it, the goal can't be come to");
        SignBoards x = roads(3, way(0, 1), way(1, 2), way(2, 3), way(1, 4));
        show(x, 0, 0);
        show(x, 1, 0);
        dueBreaks("two of three ways show it", x, one(0, 0, 1), one(0, 1, 0));
        show(x, 3, 0);
        dueBreaks("both branches break off", x, one(0, 0, 1), one(0, 1, 0), one(0, 3, 0));
        show(x, 2, 0);
        dueBreaks("one branch leads to the goal", x, one(0, 3, 0));
        x.way(4, 3, 1);
        show(x, 4, 0);
        dueBreaks("both branches lead to the goal", x);
    }

    private static void roundForEver() {
        CHECK.sentence("where one breaks off, or goes round for ever");
        SignBoards x = roads(3, way(0, 0), way(0, 3));
        show(x, 0, 0);
        dueBreaks("round one node", x, one(0, 0, 1));
        show(x, 1, 0);
        dueBreaks("out of it to the goal", x);
        SignBoards y = roads(3, way(0, 1), way(1, 2), way(2, 0), way(2, 3), way(3, 0));
        for (int way = 0; way < 3; way++) {
            show(y, way, 0);
        }
        dueBreaks("round three nodes", y, one(0, 0, 1), one(0, 1, 1), one(0, 2, 1));
        show(y, 4, 0);
        dueBreaks("from the goal into the round", y, one(0, 0, 1), one(0, 1, 1), one(0, 2, 1), one(0, 4, 1));
        show(y, 3, 0);
        dueBreaks("out of the round to the goal", y);
    }

    private static void goalAsABeginning() {
        CHECK.sentence("A way that shows it, and ends elsewhere than at its goal, BREAKS");
        SignBoards x = roads(0, way(0, 1), way(1, 0));
        show(x, 0, 0);
        dueBreaks("away from its goal", x, one(0, 0, 0));
        show(x, 1, 0);
        dueBreaks("and back again", x);
    }

    private static void longRoads() {
        CHECK.sentence("A BOARD (at most 8) .. NODES 0 .. 9");
        for (int shown = 0; shown <= 8; shown++) {
            SignBoards x = Scene.road(9, shown, 9);
            int[][] want = new int[shown][];
            for (int way = 0; way < shown; way++) {
                want[way] = one(0, way, way == shown - 1 ? 0 : 1);
            }
            dueBreaks("the first " + shown + " ways of nine", x, want);
            dueBreaks("the first " + shown + " ways to their end", Scene.road(9, shown, shown));
        }
        // Told from the goal's end on, and in the other order, so that neither order of ways is needed.
        for (boolean fromGoal : new boolean[] {false, true}) {
            SignBoards x = roads(8);
            for (int i = 0; i < 8; i++) {
                int node = fromGoal ? 7 - i : i;
                x.way(node, node + 1, 1);
                show(x, i, 0);
            }
            dueBreaks("eight ways to the goal", x);
        }
    }

    private static void withoutGoal() {
        CHECK.sentence("(Names without a goal never break.)");
        SignBoards x = new SignBoards();
        Check.name(x, "N");
        x.way(0, 1, 1);
        x.way(2, 2, 1);
        show(x, 0, 0);
        show(x, 1, 0);
        dueBreaks("no goal at first", x);
        x.goal(0, 9);
        dueBreaks("a goal", x, one(0, 0, 0), one(0, 1, 1));
        x.goal(0, BAD);
        dueBreaks("no goal again", x);
        x.goal(0, 10);
        dueBreaks("a goal that is refused", x);
    }

    private static void goalsThatChange() {
        CHECK.sentence("A way that shows it, and ends elsewhere than at its goal, BREAKS");
        SignBoards x = Scene.road(3, 3, 3);
        dueBreaks("goal 3", x);
        x.goal(0, 2);
        dueBreaks("goal 2", x, one(0, 2, 0));
        x.goal(0, 1);
        dueBreaks("goal 1", x, one(0, 1, 1), one(0, 2, 0));
        x.goal(0, 0);
        dueBreaks("goal 0", x, one(0, 0, 1), one(0, 1, 1), one(0, 2, 0));
        x.goal(0, 3);
        dueBreaks("goal 3 again", x);
    }

    private static void nameByName() {
        CHECK.sentence("Breaks are told name by name, way by way.");
        SignBoards x = new SignBoards();
        for (int i = 0; i < 3; i++) {
            Check.name(x, "N");
            x.way(i, 5, 1);
        }
        for (int way = 2; way >= 0; way--) {
            x.board(way);
        }
        for (int name = 2; name >= 0; name--) {
            for (int board = 0; board < 3; board++) {
                x.on(board, name, 0);
            }
            x.goal(name, 9);
        }
        int[][] want = new int[9][];
        for (int k = 0; k < 9; k++) {
            want[k] = one(k / 3, k % 3, 0);
        }
        dueBreaks("three names on three ways", x, want);
        x.goal(1, 5);
        dueBreaks("one of them at its goal", x, want[0], want[1], want[2], want[6], want[7], want[8]);
    }

    private static void onceForEachWay() {
        CHECK.sentence("SHOWN is a name on a way, if a board there has it. A way that shows it .. BREAKS");
        SignBoards x = roads(9, way(0, 1));
        for (int i = 0; i < 8; i++) {
            show(x, 0, 0);
        }
        dueBreaks("eight boards on one way", x, one(0, 0, 0));
    }

    private static void breaksThatAreNot() {
        CHECK.sentence("Of the k-th break: 0 the name, 1 the way, 2 the kind. BAD: none such.");
        for (int shown = 0; shown <= 3; shown++) {
            SignBoards x = Scene.road(4, shown, 9);
            for (int k = -2; k <= 5; k++) {
                boolean is = k >= 0 && k < shown;
                CHECK.due("break " + k + " of " + shown, x.breaks(k, 1), is ? k : BAD);
            }
            for (int bad : Check.outside(0, shown - 1)) {
                for (int what = 0; what <= 2; what++) {
                    CHECK.due("part " + what + " of break " + bad + " of " + shown, x.breaks(bad, what), BAD);
                }
            }
        }
    }

    private static void parts() {
        CHECK.sentence("Of the k-th break: 0 the name, 1 the way, 2 the kind. BAD: none such.");
        SignBoards x = new SignBoards();
        for (int i = 0; i < 3; i++) {
            Check.name(x, "N");
            x.way(0, 0, 1);
        }
        x.goal(2, 5);
        show(x, 1, 2);
        int[] want = {BAD, BAD, 2, 1, 1, BAD, BAD};
        for (int i = 0; i < want.length; i++) {
            CHECK.due("part " + (i - 2), x.breaks(0, i - 2), want[i]);
        }
        for (int bad : Check.outside(0, 2)) {
            CHECK.due("part " + bad, x.breaks(0, bad), BAD);
        }
    }

    private static void allBreaks() {
        CHECK.sentence("A BOARD (at most 8) .. has LINES (at most 5)");
        SignBoards x = Scene.full();
        int[][] want = new int[40][];
        for (int k = 0; k < 40; k++) {
            int name = k / 4;
            want[k] = one(name, 16 + 2 * (k % 4) + name / 5, 0);
        }
        dueBreaks("forty lines", x, want);
        x.goal(9, BAD);
        CHECK.due("without those of the last name", x.count(4), 36);
    }

    private static void counts() {
        CHECK.sentence("0 names, 1 ways, 2 boards, .. 5 signs collected. BAD: another number.");
        SignBoards x = Scene.some();
        int[] want = {BAD, BAD, 4, 5, 3, 2, 3, 12, BAD, BAD};
        for (int i = 0; i < want.length; i++) {
            CHECK.due("count " + (i - 2), x.count(i - 2), want[i]);
        }
        for (int bad : Check.outside(0, 5)) {
            CHECK.due("count " + bad, x.count(bad), BAD);
        }
    }

    private static void countsOfNoneAndAll() {
        CHECK.sentence("0 names, 1 ways, 2 boards, 3 pairs with a kern, 4 breaks, 5 signs collected.");
        int[] all = {10, 24, 8, 60, 40, 100};
        SignBoards x = new SignBoards();
        SignBoards y = Scene.full();
        for (int what = 0; what <= 5; what++) {
            CHECK.due("none, count " + what, x.count(what), 0);
            CHECK.due("all, count " + what, y.count(what), all[what]);
        }
    }

    private static void lastCall() {
        CHECK.sentence("An object is used for at most 512 calls after it has been made");
        SignBoards x = Scene.full();
        int[] want = {9, 23, 0};
        for (int call = Scene.CALLS_OF_FULL + 1; call < MOST_CALLS; call++) {
            CHECK.due("call " + call, x.breaks(39, call % 3), want[call % 3]);
        }
        CHECK.due("the last call", x.rules(), 2);
        SignBoards y = new SignBoards();
        for (int call = 1; call < MOST_CALLS; call += 2) {
            CHECK.due("call " + call, y.unit('o'), true);
            CHECK.due("call " + (call + 1), y.rules(), -2);
        }
    }
}
