/** Objects that several tests begin with. */
final class Scene {
    static final int CALLS_OF_FULL = 263;

    private static final int BAD = SignBoards.BAD;

    private Scene() {
    }

    /** Board 0 on way 0, from node 0 to node 1, with a line for each name, all with the same arrow. */
    static SignBoards board(String rules, int arrow, String... names) {
        SignBoards x = new SignBoards();
        Check.rules(x, rules);
        x.way(0, 1, 1);
        x.board(0);
        for (String each : names) {
            x.on(0, Check.name(x, each), arrow);
        }
        return x;
    }

    /** A road 0 - 1 - .. with a name whose goal is told, shown by a board on each of the first ways. */
    static SignBoards road(int ways, int shown, int goal) {
        SignBoards x = new SignBoards();
        Check.name(x, "N");
        x.goal(0, goal);
        for (int way = 0; way < ways; way++) {
            x.way(way, way + 1, 1);
        }
        for (int way = 0; way < shown; way++) {
            x.board(way);
            x.on(way, 0, 1);
        }
        return x;
    }

    /** Something of each kind, with room left for more of each, and rules that are collected, but not told yet. */
    static SignBoards some() {
        SignBoards x = new SignBoards();
        Check.rules(x, "h 40 10, 80 20; m 3 2; o n");
        String[] names = {"AV", "Lo", "iii", "V"};
        int[] goals = {2, 3, BAD, 3};
        for (int i = 0; i < names.length; i++) {
            Check.name(x, names[i]);
            x.goal(i, goals[i]);
        }
        x.glyph('A', 10);
        x.glyph('V', 11);
        x.kern('A', 'V', -3);
        x.kern('i', 'i', 0);
        int[][] ways = {{0, 1, 5}, {1, 2, 7}, {2, 3, 9}, {3, 3, 1}, {3, 0, 2}};
        for (int[] each : ways) {
            x.way(each[0], each[1], each[2]);
        }
        x.board(0);
        x.board(1);
        x.board(0);
        x.on(0, 1, 0);
        x.on(0, 0, 2);
        x.on(0, 2, 1);
        x.on(1, 2, 2);
        x.on(1, 1, 1);
        x.wide(0, 100);
        Check.collect(x, "h 7 3; m 1 4");
        return x;
    }

    /** All that there is room for: names, ways, boards, lines, pairs, breaks and signs. */
    static SignBoards full() {
        SignBoards x = new SignBoards();
        for (int i = 0; i < 10; i++) {
            x.unit('A' + i);
            x.name();
            x.goal(i, 9);
        }
        for (int i = 0; i < 24; i++) {
            x.way(i % 9, (i + 1) % 9, 1 + i);
        }
        for (int i = 0; i < 8; i++) {
            x.board(16 + i);
            for (int line = 0; line < 5; line++) {
                x.on(i, line + 5 * (i % 2), line % 3);
            }
        }
        for (int i = 0; i < 60; i++) {
            x.kern('A' + i % 10, 'A' + i / 10, i % 33 - 16);
        }
        x.wide(7, 10000);
        Check.collect(x, "m 3 2;" + " ".repeat(91) + "o f");
        return x;
    }
}
