/** Each promise of the document by hand: ordinary inputs, the edges it names, wrong inputs. */
public final class PromisesTest {
    private static final int BAD = SignBoards.BAD;
    private static final int MOST = Integer.MAX_VALUE;
    private static final int LEAST = Integer.MIN_VALUE;

    private static final Check CHECK = new Check();

    public static void main(String[] args) {
        promise1();
        promise2();
        promise3Answers();
        promise3Effects();
        promise4();
        promise5();
        promise6();
        promise7();
        promise8();
        promise9();
        promise10();
        promise11();
        promise12();
        promise13();
        promise14ByDistance();
        promise14ByLetters();
        promise15();
        promise16();
        promise16Narrow();
        promise17();
        promise17Shifted();
        promise18();
        promise19();
        promise19Reach();
        promise19Full();
        promise20();
        CHECK.finish();
    }

    private static void due(String call, long got, long want) {
        CHECK.due(call, got, want);
    }

    private static void due(String call, boolean got, boolean want) {
        CHECK.due(call, got, want);
    }

    private static int rules(SignBoards x, String text) {
        return Check.rules(x, text);
    }

    private static int name(SignBoards x, String text) {
        return Check.name(x, text);
    }

    private static void promise1() {
        SignBoards x = new SignBoards();
        for (int what = 0; what <= 5; what++) {
            due("1 new count " + what, x.count(what), 0);
        }
        due("1 height of 1", x.height(1), 100);
        due("1 height of 999", x.height(999), 100);
        due("1 width of a letter", x.width(name(x, "A"), 50), 800);
        due("1 width of two letters", x.width(name(x, "AB"), 50), 1600);
        x.way(0, 1, 1);
        x.board(0);
        due("1 no margin, width", x.size(0, 0, 50), 0);
        due("1 no margin, height", x.size(0, 1, 50), 0);
        x.on(0, 1, 0);
        x.on(0, 0, 0);
        due("1 order as told", x.row(0, 0), 1);
        due("1 no gap, width", x.size(0, 0, 50), 1600 + 1600);
        due("1 no gap, height", x.size(0, 1, 50), 3200);
        due("1 no goal", x.distance(0, 0), BAD);
    }

    private static void promise2() {
        SignBoards x = new SignBoards();
        for (int bad : new int[] {LEAST, -1, 0, 31, 127, 128, 32 + 256, MOST}) {
            due("2 unit " + bad, x.unit(bad), false);
        }
        due("2 none collected", x.count(5), 0);
        for (int u = 32; u <= 126; u++) {
            due("2 unit " + u, x.unit(u), true);
        }
        due("2 collected", x.count(5), 95);
        for (int i = 96; i <= 100; i++) {
            due("2 unit number " + i, x.unit('a'), true);
        }
        due("2 no room", x.unit('a'), false);
        due("2 still 100", x.count(5), 100);
        x.name();
        due("2 room again", x.unit('a'), true);
    }

    private static void promise3Answers() {
        String[] wrong = {
            "", "   ", "h", "h ", "h 5", "h 5  ", "h 5 5,", "h 5 5 , ", "m", "m 5", "o", "o n;", "o n ; ",
            "h 1 1,2 2,3 3,4 4,5 5,",
        };
        for (String each : wrong) {
            due("3 ends too early: " + each, rules(new SignBoards(), each), -1 - each.length());
        }
        // The sign behind the bar is the wrong one.
        String[] marked = {
            "|x", "|;", "|,", "|5", "|H 5 5", " |n", "h |x", "h |, 5", "h |;", "h 5|, 5", "h 5 |x", "h |05 5",
            "h |0 5", "h 5 |0", "h 5 |00", "h 5 |05", "h |1000 5", "h 5 |1000", "h |5555555555555555555555555 5",
            "h |4294967297 1", "h 5 5|x", "h 5 5 |5", "h 5 5,|5 6", "h 5 5,|4 6", "h 5 5 , |4", "h 5 5,|,",
            "h 5 5,|;", "h 5 5,|1000 1", "h 999 1,|999 1", "h 55|;", "h |-5 5", "h 1 1,2 2,3 3,4 4,5 5,|6 6",
            "h 1 1,2 2,3 3,4 4,5 5 , |6", "h 1 1,2 2,3 3,4 4,5 5,|x", "h 1 1,2 2,3 3,4 4,5 5,|;", "m |x 5", "m 5|, 5",
            "m 5 |x", "m |00 1", "m 1 |00", "m |01 1", "m |1000 1", "m 1 |1000", "m 5 5|, 5 5", "m 5 5 |5",
            "m 5 5;|m 1 1", "m 5 5;o n;|m", "o |x", "o |N", "o |o", "o |;", "o n|n", "o n |x", "o n;|o n", "o n;|;",
            "o n;|x", "h 5 5;|h 5 5", "h 5 5;m 5 5;o n;|h", "h 5 5;m 5 5;o n;|x", "h 5 5,6 |;", "m 55|;",
        };
        for (String each : marked) {
            int answer = rules(new SignBoards(), each.replace("|", ""));
            due("3 wrong sign: " + each, answer, -1 - each.indexOf('|'));
        }
        String[] one = {
            "h 5 5", "h5 5", "  h  5   5  ", "h 1 1,2 2,3 3,4 4,5 5", "h1 1 ,2 2, 3 3 , 4 4,5 5 ", "h 999 999",
            "m 0 0", "m 999 999", "m0 0", "m 0 10", "o n", "on", "of", "o a", " o t ", "h 9 9,10 1,100 1",
        };
        for (String each : one) {
            due("3 one rule: " + each, rules(new SignBoards(), each), 1);
        }
        due("3 two rules", rules(new SignBoards(), "on;m1 2"), 2);
        due("3 three rules", rules(new SignBoards(), " o f ; h 1 2 , 3 4 ; m 5 6 "), 3);
        String full = "h 1 1" + " ".repeat(94) + ";";
        due("3 a full text", rules(new SignBoards(), full), -101);
    }

    private static void promise3Effects() {
        SignBoards x = new SignBoards();
        due("3 all rules", rules(x, "h 10 20, 30 40;m 3 5;o a"), 3);
        due("3 text is gone", x.count(5), 0);
        name(x, "b");
        name(x, "a");
        x.way(0, 1, 1);
        x.board(0);
        x.on(0, 0, 0);
        x.on(0, 1, 0);
        due("3 heights", x.height(11), 40);
        due("3 margin and gap", x.size(0, 1, 10), 16 * (2 * 20 + 5 + 2 * 3));
        due("3 order", x.row(0, 0), 1);
        due("3 a wrong text", rules(x, "h 7 7;m 9 9;o t;x"), -17);
        due("3 a wrong text is gone", x.count(5), 0);
        due("3 heights stay", x.height(11), 40);
        due("3 margin and gap stay", x.size(0, 1, 10), 16 * (2 * 20 + 5 + 2 * 3));
        due("3 order stays", x.row(0, 0), 1);
        due("3 only the order", rules(x, "o a"), 1);
        due("3 heights as at first", x.height(11), 100);
        due("3 margin and gap as at first", x.size(0, 1, 10), 16 * 200);
        due("3 order told again", x.row(0, 0), 1);
        due("3 only the margin", rules(x, "m 1 0"), 1);
        due("3 order as at first", x.row(0, 0), 0);
        due("3 margin alone", x.size(0, 1, 10), 16 * 202);
        due("3 only the heights", rules(x, "h 1 1"), 1);
        due("3 margin gone again", x.size(0, 1, 10), 16 * 2);
        due("3 an empty text", x.rules(), -1);
        due("3 rules stay after it", x.height(1), 1);
    }

    private static void promise4() {
        SignBoards x = new SignBoards();
        due("4 empty", x.name(), BAD);
        due("4 thirteen letters", name(x, "abcdefghijklm"), BAD);
        due("4 it is gone", x.count(5), 0);
        due("4 none yet", x.count(0), 0);
        due("4 twelve letters", name(x, "abcdefghijkl"), 0);
        due("4 it is gone, too", x.count(5), 0);
        due("4 all twelve", x.width(0, 50), 12 * 8 * 100);
        due("4 a blank", name(x, " "), 1);
        for (int i = 2; i < 10; i++) {
            due("4 name " + i, name(x, "same"), i);
        }
        due("4 an eleventh", name(x, "a"), BAD);
        due("4 the eleventh is gone", x.count(5), 0);
        due("4 ten of them", x.count(0), 10);
    }

    private static void promise5() {
        SignBoards x = new SignBoards();
        name(x, " ~");
        due("5 first letter, no width", x.glyph(32, 0), true);
        due("5 last letter, all width", x.glyph(126, 64), true);
        due("5 both", x.width(0, 1), 6400);
        for (int bad : new int[] {LEAST, -1, 0, 31, 127, MOST}) {
            due("5 letter " + bad, x.glyph(bad, 1), false);
        }
        for (int bad : new int[] {LEAST, -1, 65, MOST}) {
            due("5 width " + bad, x.glyph(32, bad), false);
        }
        due("5 as before", x.width(0, 1), 6400);
        due("5 again", x.glyph(32, 1), true);
        due("5 changed", x.width(0, 1), 6500);
        due("5 others are 8", x.width(name(x, "!}"), 1), 1600);
    }

    private static void promise6() {
        SignBoards x = new SignBoards();
        name(x, "AVA");
        due("6 a pair", x.kern('A', 'V', -16), true);
        due("6 not the other way", x.width(0, 1), 800);
        due("6 the other way", x.kern('V', 'A', 16), true);
        due("6 both", x.width(0, 1), 2400);
        for (int bad : new int[] {LEAST, -17, 17, MOST}) {
            due("6 kern " + bad, x.kern('A', 'V', bad), false);
        }
        for (int bad : new int[] {LEAST, -1, 31, 127, MOST}) {
            due("6 first " + bad, x.kern(bad, 'V', 1), false);
            due("6 second " + bad, x.kern('A', bad, 1), false);
        }
        due("6 two pairs", x.count(3), 2);
        due("6 a pair again", x.kern('A', 'V', 0), true);
        due("6 still two pairs", x.count(3), 2);
        due("6 now without it", x.width(0, 1), 2400 + 1600);
        for (int i = 2; i < 60; i++) {
            due("6 pair " + i, x.kern(' ', 32 + i, 0), true);
        }
        due("6 pairs of 0 count", x.count(3), 60);
        due("6 no room", x.kern('~', '~', 1), false);
        due("6 no room for 0", x.kern('~', '~', 0), false);
        due("6 an old pair", x.kern('A', 'V', 5), true);
        due("6 it has changed", x.width(0, 1), 2400 + 1600 + 500);
        due("6 sixty pairs", x.count(3), 60);
        due("6 a pair that has none", x.width(name(x, "~~"), 1), 1600);
    }

    private static void promise7() {
        SignBoards x = new SignBoards();
        rules(x, "h 10 7, 20 3, 300 9");
        int[][] cases = {{1, 7}, {10, 7}, {11, 3}, {20, 3}, {21, 9}, {300, 9}, {301, 9}, {999, 9}};
        for (int[] each : cases) {
            due("7 height of " + each[0], x.height(each[0]), each[1]);
        }
        for (int bad : new int[] {LEAST, -1, 0, 1000, MOST}) {
            due("7 height of " + bad, x.height(bad), BAD);
        }
        rules(x, "h 1 1,2 2,3 3,4 4,5 5");
        due("7 fifth of five", x.height(5), 5);
        due("7 above five", x.height(6), 5);
        due("7 fourth of five", x.height(4), 4);
    }

    private static void promise8() {
        SignBoards x = new SignBoards();
        rules(x, "h 10 1, 20 999");
        name(x, "AAB");
        x.glyph('A', 0);
        x.glyph('B', 3);
        x.kern('A', 'A', -4);
        x.kern('B', 'A', 9);
        due("8 it may be - 1", x.width(0, 10), -1);
        due("8 below 0", x.width(0, 11), -999);
        x.kern('A', 'B', 2);
        due("8 above 0", x.width(0, 999), 999);
        due("8 no such name", x.width(1, 10), BAD);
        due("8 name below 0", x.width(-1, 10), BAD);
        due("8 least name", x.width(LEAST, 10), BAD);
        due("8 speed 0", x.width(0, 0), BAD);
        due("8 speed 1000", x.width(0, 1000), BAD);
        SignBoards y = new SignBoards();
        rules(y, "h 1 999");
        name(y, "WWWWWWWWWWWW");
        y.glyph('W', 64);
        y.kern('W', 'W', 16);
        due("8 the widest", y.width(0, 1), (12 * 64 + 11 * 16) * 999);
    }

    private static void promise9() {
        SignBoards x = new SignBoards();
        for (int bad : new int[] {LEAST, -1, 10, MOST}) {
            due("9 from " + bad, x.way(bad, 0, 1), BAD);
            due("9 to " + bad, x.way(0, bad, 1), BAD);
        }
        for (int bad : new int[] {LEAST, -1, 0, 100001, MOST}) {
            due("9 length " + bad, x.way(0, 1, bad), BAD);
        }
        due("9 none yet", x.count(1), 0);
        due("9 longest", x.way(0, 9, 100000), 0);
        due("9 to itself", x.way(9, 9, 1), 1);
        for (int i = 2; i < 24; i++) {
            due("9 way " + i, x.way(3, 4, 7), i);
        }
        due("9 a twenty-fifth", x.way(3, 4, 7), BAD);
        due("9 twenty-four", x.count(1), 24);
        due("9 the last is there", x.board(23), 0);
    }

    private static void promise10() {
        SignBoards x = new SignBoards();
        name(x, "A");
        x.way(0, 1, 5);
        x.way(1, 2, 7);
        x.board(0);
        x.on(0, 0, 0);
        due("10 none at first", x.distance(0, 0), BAD);
        due("10 a goal", x.goal(0, 2), true);
        due("10 it is there", x.distance(0, 0), 7);
        for (int bad : new int[] {LEAST, -2, 10, MOST}) {
            due("10 node " + bad, x.goal(0, bad), false);
            due("10 name " + bad, x.goal(bad, 1), false);
        }
        due("10 name - 1", x.goal(-1, 1), false);
        due("10 name 1", x.goal(1, BAD), false);
        due("10 as before", x.distance(0, 0), 7);
        due("10 another", x.goal(0, 1), true);
        due("10 it is the other", x.distance(0, 0), 0);
        due("10 none", x.goal(0, BAD), true);
        due("10 it has none", x.distance(0, 0), BAD);
        due("10 node 0", x.goal(0, 0), true);
        due("10 node 9", x.goal(0, 9), true);
    }

    private static void promise11() {
        SignBoards x = new SignBoards();
        due("11 no ways", x.board(0), BAD);
        x.way(0, 1, 1);
        x.way(1, 0, 1);
        for (int bad : new int[] {LEAST, -1, 2, MOST}) {
            due("11 way " + bad, x.board(bad), BAD);
        }
        for (int i = 0; i < 8; i++) {
            due("11 board " + i, x.board(i / 7), i);
        }
        due("11 a ninth", x.board(0), BAD);
        due("11 eight", x.count(2), 8);
        name(x, "A");
        x.on(7, 0, 0);
        due("11 it stands there", x.shows(1, 0), true);
        due("11 not elsewhere", x.shows(0, 0), false);
    }

    private static void promise12() {
        SignBoards x = new SignBoards();
        x.way(0, 1, 1);
        x.board(0);
        x.board(0);
        for (int i = 0; i < 7; i++) {
            name(x, "A");
        }
        for (int bad : new int[] {LEAST, -1, 2, MOST}) {
            due("12 board " + bad, x.on(bad, 0, 0), false);
        }
        for (int bad : new int[] {LEAST, -1, 7, MOST}) {
            due("12 name " + bad, x.on(0, bad, 0), false);
        }
        for (int bad : new int[] {LEAST, -1, 3, MOST}) {
            due("12 arrow " + bad, x.on(0, 0, bad), false);
        }
        due("12 none yet", x.row(0, 0), BAD);
        due("12 left", x.on(0, 6, 0), true);
        due("12 it has it", x.on(0, 6, 1), false);
        due("12 its arrow stays", x.drawn(0, 1, 0, 0), 200);
        due("12 another board has it not", x.on(1, 6, 2), true);
        for (int i = 0; i < 4; i++) {
            due("12 line " + i, x.on(0, i, i % 3), true);
        }
        due("12 a sixth", x.on(0, 4, 0), false);
        due("12 and one that it has", x.on(0, 0, 0), false);
        due("12 the fifth", x.row(0, 4), 3);
        due("12 no sixth", x.row(0, 5), BAD);
        due("12 not shown then", x.shows(0, 4), false);
        due("12 the other has one", x.row(1, 1), BAD);
    }

    private static void promise13() {
        SignBoards x = new SignBoards();
        due("13 no board", x.wide(0, 1), false);
        x.way(0, 1, 1);
        x.board(0);
        due("13 widest", x.wide(0, 10000), true);
        due("13 it is", x.size(0, 0, 1), 160000);
        for (int bad : new int[] {LEAST, -1, 10001, MOST}) {
            due("13 mm " + bad, x.wide(0, bad), false);
        }
        for (int bad : new int[] {LEAST, -1, 1, MOST}) {
            due("13 board " + bad, x.wide(bad, 1), false);
        }
        due("13 as before", x.size(0, 0, 1), 160000);
        due("13 its height is not", x.size(0, 1, 1), 0);
        due("13 none again", x.wide(0, 0), true);
        due("13 as at first", x.size(0, 0, 1), 0);
    }

    /** Way 0 ends at 1; names 0 .. 4 are 9, without, 4, unreached, 4 away. */
    private static SignBoards fiveNames() {
        SignBoards x = new SignBoards();
        x.way(0, 1, 1);
        x.way(1, 2, 4);
        x.way(1, 3, 10);
        x.way(2, 3, 5);
        x.way(4, 1, 1);
        int[] goals = {3, BAD, 2, 4, 2};
        x.board(0);
        for (int i = 0; i < 5; i++) {
            name(x, "N");
            x.goal(i, goals[i]);
            x.on(0, i, 0);
        }
        return x;
    }

    private static void dueRows(String order, SignBoards x, int... want) {
        for (int k = 0; k < want.length; k++) {
            due("14 " + order + " row " + k, x.row(0, k), want[k]);
        }
        due("14 " + order + " behind the last", x.row(0, want.length), BAD);
    }

    private static void promise14ByDistance() {
        SignBoards x = fiveNames();
        dueRows("first", x, 0, 1, 2, 3, 4);
        rules(x, "o n");
        dueRows("n", x, 2, 4, 0, 1, 3);
        rules(x, "o f");
        dueRows("f", x, 0, 2, 4, 1, 3);
        rules(x, "o a");
        dueRows("a", x, 0, 1, 2, 3, 4);
        rules(x, "o t");
        dueRows("t", x, 0, 1, 2, 3, 4);
        x.goal(3, 1);
        rules(x, "o n");
        dueRows("n after a new goal", x, 3, 2, 4, 0, 1);
        x.way(1, 3, 2);
        dueRows("n after a new way", x, 3, 0, 2, 4, 1);
        rules(x, "o f");
        dueRows("f after a new way", x, 2, 4, 0, 3, 1);
        for (int bad : new int[] {LEAST, -1, 1, MOST}) {
            due("14 board " + bad, x.row(bad, 0), BAD);
        }
        for (int bad : new int[] {LEAST, -1, 5, MOST}) {
            due("14 row " + bad, x.row(0, bad), BAD);
        }
    }

    private static void promise14ByLetters() {
        SignBoards x = new SignBoards();
        x.way(0, 1, 1);
        x.board(0);
        String[] texts = {"b", "AB", "aa", "A", "AB"};
        for (String each : texts) {
            name(x, each);
        }
        for (int i = 4; i >= 0; i--) {
            x.on(0, i, 0);
        }
        x.goal(0, 1);
        rules(x, "o a");
        dueRows("letters", x, 3, 4, 1, 2, 0);
        SignBoards y = new SignBoards();
        y.way(0, 1, 1);
        y.board(0);
        for (String each : new String[] {"A~", "A ", "A", " A", "~"}) {
            y.on(0, name(y, each), 0);
        }
        rules(y, "o a");
        dueRows("signs", y, 3, 2, 1, 0, 4);
        SignBoards z = new SignBoards();
        z.way(0, 1, 1);
        z.board(0);
        for (String each : new String[] {"abcdefghijkl", "abcdefghijkl", "abcdefghijkk", "abcdefghijk"}) {
            z.on(0, name(z, each), 0);
        }
        rules(z, "o a");
        dueRows("long names", z, 3, 2, 0, 1);
    }

    private static void promise15() {
        SignBoards x = fiveNames();
        int[] told = {9, BAD, 4, BAD, 4};
        for (int k = 0; k < 5; k++) {
            due("15 told " + k, x.distance(0, k), told[k]);
        }
        rules(x, "o f");
        int[] farthest = {9, 4, 4, BAD, BAD};
        for (int k = 0; k < 5; k++) {
            due("15 farthest " + k, x.distance(0, k), farthest[k]);
        }
        for (int bad : new int[] {LEAST, -1, 5, MOST}) {
            due("15 line " + bad, x.distance(0, bad), BAD);
            due("15 board " + (bad == 5 ? 1 : bad), x.distance(bad == 5 ? 1 : bad, 0), BAD);
        }
        SignBoards y = new SignBoards();
        // Told from the far end, so that each round of a search finds only one node more.
        for (int node = 8; node >= 0; node--) {
            y.way(node, node + 1, 100000);
        }
        y.way(9, 0, 3);
        y.way(0, 0, 1);
        name(y, "far");
        y.goal(0, 9);
        y.board(9);
        y.on(0, 0, 0);
        due("15 the longest", y.distance(0, 0), 900000);
        y.goal(0, 0);
        due("15 where its way ends", y.distance(0, 0), 0);
        y.board(10);
        y.on(1, 0, 0);
        due("15 on a way to itself", y.distance(1, 0), 0);
    }

    private static SignBoards twoLines() {
        SignBoards x = new SignBoards();
        rules(x, "h 50 10, 60 3; m 7 2");
        x.way(0, 1, 1);
        x.board(0);
        return x;
    }

    private static void promise16() {
        SignBoards x = twoLines();
        due("16 margins, width", x.size(0, 0, 50), 16 * 14);
        due("16 margins, height", x.size(0, 1, 50), 16 * 14);
        x.wide(0, 14);
        due("16 as wide", x.size(0, 0, 50), 16 * 14);
        x.wide(0, 15);
        due("16 wider", x.size(0, 0, 50), 16 * 15);
        due("16 not higher", x.size(0, 1, 50), 16 * 14);
        x.on(0, name(x, "AB"), 0);
        due("16 one line, width", x.size(0, 0, 50), 16 * (10 + 10 + 2 + 14));
        due("16 one line, height", x.size(0, 1, 50), 16 * (10 + 14));
        x.on(0, name(x, "ABC"), 2);
        due("16 two lines, width", x.size(0, 0, 50), 16 * (15 + 10 + 2 + 14));
        due("16 two lines, height", x.size(0, 1, 50), 16 * (10 + 2 + 10 + 14));
        due("16 other speed, width", x.size(0, 0, 51), 3 * 24 + 16 * (3 + 2 + 14));
        due("16 other speed, height", x.size(0, 1, 999), 16 * (3 + 2 + 3 + 14));
        x.wide(0, 41);
        due("16 just as wide", x.size(0, 0, 50), 16 * 41);
        x.wide(0, 42);
        due("16 wider than the lines", x.size(0, 0, 50), 16 * 42);
        for (int bad : new int[] {LEAST, -1, 2, MOST}) {
            due("16 axis " + bad, x.size(0, bad, 50), BAD);
            due("16 board " + (bad == 2 ? 1 : bad), x.size(bad == 2 ? 1 : bad, 0, 50), BAD);
        }
        for (int bad : new int[] {LEAST, -1, 0, 1000, MOST}) {
            due("16 speed " + bad, x.size(0, 1, bad), BAD);
        }
    }

    /** Lines that kerns make narrower than nothing. */
    private static SignBoards narrowLine() {
        SignBoards x = new SignBoards();
        rules(x, "h 50 1; m 3 1");
        x.way(0, 1, 1);
        x.board(0);
        x.glyph('i', 0);
        x.kern('i', 'i', -16);
        x.on(0, name(x, "iiiii"), 0);
        return x;
    }

    private static void promise16Narrow() {
        SignBoards x = narrowLine();
        due("16 narrower than its margins", x.size(0, 0, 50), -64 + 32 + 96);
        x.on(0, name(x, "iiii"), 0);
        due("16 the less narrow one", x.size(0, 0, 50), -48 + 32 + 96);
        x.on(0, name(x, "i"), 0);
        due("16 arrow and gap", x.size(0, 0, 50), 32 + 96);
        SignBoards y = narrowLine();
        rules(y, "h 50 1");
        due("16 at least 0 wide", y.size(0, 0, 50), 0);
    }

    private static void dueItem(SignBoards x, int k, int what, int left, int top) {
        due("17 what is item " + k, x.drawn(0, 50, k, 0), what);
        due("17 left of item " + k, x.drawn(0, 50, k, 1), left);
        due("17 top of item " + k, x.drawn(0, 50, k, 2), top);
    }

    private static void promise17() {
        SignBoards x = twoLines();
        due("17 no lines", x.drawn(0, 50, 0, 0), BAD);
        x.glyph('V', 5);
        x.kern('A', 'V', -3);
        x.on(0, name(x, "AVA"), 0);
        x.on(0, name(x, "L"), 2);
        x.on(0, name(x, "~ ~~~"), 1);
        // Widths are 10 * (8 - 3 + 5 + 8) = 180, 80 and 400, each with 192 more; the widest fills the board.
        dueItem(x, 0, 200, 112 + 110, 112);
        dueItem(x, 1, 'A', 112 + 110 + 192, 112);
        dueItem(x, 2, 'V', 112 + 110 + 192 + 50, 112);
        dueItem(x, 3, 'A', 112 + 110 + 192 + 100, 112);
        dueItem(x, 4, 202, 112 + 160 + 80 + 32, 112 + 192);
        dueItem(x, 5, 'L', 112 + 160, 112 + 192);
        dueItem(x, 6, 201, 112, 112 + 384);
        dueItem(x, 7, '~', 112 + 192, 112 + 384);
        dueItem(x, 8, ' ', 112 + 192 + 80, 112 + 384);
        dueItem(x, 11, '~', 112 + 192 + 320, 112 + 384);
        dueItem(x, 12, BAD, BAD, BAD);
        rules(x, "h 50 10; m 7 2; o a");
        dueItem(x, 4, 202, 112 + 160 + 80 + 32, 112 + 192);
        rules(x, "h 50 10; m 7 2; o f");
        x.goal(1, 1);
        dueItem(x, 0, 202, 112 + 160 + 80 + 32, 112);
        dueItem(x, 1, 'L', 112 + 160, 112);
        dueItem(x, 2, 200, 112 + 110, 112 + 192);
        for (int bad : new int[] {LEAST, -1, 3, MOST}) {
            due("17 what " + bad, x.drawn(0, 50, 0, bad), BAD);
            due("17 board " + bad, x.drawn(bad, 50, 0, 0), BAD);
        }
        for (int bad : new int[] {LEAST, -1, 12, MOST}) {
            due("17 item " + bad, x.drawn(0, 50, bad, 1), BAD);
        }
        for (int bad : new int[] {LEAST, -1, 0, 1000, MOST}) {
            due("17 speed " + bad, x.drawn(0, bad, 0, 0), BAD);
        }
    }

    private static void promise17Shifted() {
        SignBoards x = new SignBoards();
        rules(x, "h 50 1");
        x.way(0, 1, 1);
        x.board(0);
        x.glyph('i', 1);
        x.on(0, name(x, "i"), 0);
        x.wide(0, 2);
        dueItem(x, 0, 200, 7, 0);
        dueItem(x, 1, 'i', 23, 0);
        x.wide(0, 1);
        dueItem(x, 0, 200, 0, 0);
        SignBoards y = narrowLine();
        y.wide(0, 100);
        // The line is 32 - 64 wide, so that 1600 - 96 + 32 are left over.
        dueItem(y, 0, 200, 48 + 768, 48);
        dueItem(y, 1, 'i', 48 + 768 + 32, 48);
        dueItem(y, 5, 'i', 48 + 768 + 32 - 64, 48);
        y.wide(0, 0);
        dueItem(y, 0, 200, 48, 48);
        dueItem(y, 5, 'i', 48 + 32 - 64, 48);
        SignBoards z = new SignBoards();
        rules(z, "h 50 1");
        z.way(0, 1, 1);
        z.board(0);
        z.glyph('i', 0);
        z.kern('i', 'i', -1);
        z.on(0, name(z, "ii"), 2);
        dueItem(z, 2, 'i', -1, 0);
        dueItem(z, 0, 202, -1, 0);
    }

    private static void promise18() {
        SignBoards x = new SignBoards();
        x.way(0, 1, 1);
        x.way(0, 1, 1);
        name(x, "A");
        name(x, "A");
        x.board(1);
        x.board(1);
        due("18 no lines", x.shows(1, 0), false);
        x.on(1, 0, 0);
        due("18 by the second board", x.shows(1, 0), true);
        due("18 another way", x.shows(0, 0), false);
        due("18 another name", x.shows(1, 1), false);
        x.on(0, 1, 0);
        due("18 by the first board", x.shows(1, 1), true);
        due("18 both", x.shows(1, 0), true);
        for (int bad : new int[] {LEAST, -1, 2, 32, 33, MOST}) {
            due("18 way " + bad, x.shows(bad, 0), false);
            due("18 name " + bad, x.shows(1, bad), false);
        }
    }

    private static void dueBreak(SignBoards x, int k, int name, int way, int kind) {
        due("19 name of break " + k, x.breaks(k, 0), name);
        due("19 way of break " + k, x.breaks(k, 1), way);
        due("19 kind of break " + k, x.breaks(k, 2), kind);
    }

    private static void promise19() {
        SignBoards x = new SignBoards();
        x.way(0, 1, 1);
        x.way(1, 2, 1);
        x.way(2, 3, 1);
        name(x, "A");
        name(x, "B");
        dueBreak(x, 0, BAD, BAD, BAD);
        x.board(1);
        x.board(0);
        x.on(1, 1, 0);
        x.on(0, 1, 0);
        x.on(1, 0, 0);
        due("19 without a goal", x.count(4), 0);
        x.goal(1, 3);
        x.goal(0, 3);
        due("19 three", x.count(4), 3);
        dueBreak(x, 0, 0, 0, 0);
        dueBreak(x, 1, 1, 0, 1);
        dueBreak(x, 2, 1, 1, 0);
        dueBreak(x, 3, BAD, BAD, BAD);
        for (int bad : new int[] {LEAST, -1, 3, MOST}) {
            due("19 what " + bad, x.breaks(0, bad), BAD);
            due("19 break " + bad, x.breaks(bad, 0), BAD);
        }
        x.goal(1, 2);
        due("19 it ends at its goal", x.count(4), 1);
        x.goal(0, BAD);
        due("19 none without a goal", x.count(4), 0);
        x.goal(1, 1);
        dueBreak(x, 0, 1, 1, 0);
        due("19 gone past its goal", x.count(4), 1);
    }

    private static void promise19Reach() {
        SignBoards x = new SignBoards();
        x.way(0, 0, 1);
        x.way(0, 1, 1);
        name(x, "A");
        x.goal(0, 1);
        x.board(0);
        x.on(0, 0, 0);
        due("19 round itself", x.count(4), 1);
        dueBreak(x, 0, 0, 0, 1);
        x.board(1);
        x.on(1, 0, 0);
        due("19 it comes out", x.count(4), 0);
        SignBoards y = new SignBoards();
        name(y, "A");
        y.goal(0, 7);
        for (int node = 0; node < 7; node++) {
            y.way(node, node + 1, 1);
        }
        y.way(3, 9, 1);
        for (int way = 0; way < 8; way++) {
            y.board(way);
            y.on(way, 0, 0);
        }
        due("19 one branch breaks", y.count(4), 1);
        dueBreak(y, 0, 0, 7, 0);
        SignBoards z = new SignBoards();
        name(z, "A");
        z.goal(0, 7);
        for (int node = 6; node >= 0; node--) {
            z.way(node, node + 1, 1);
        }
        for (int way = 0; way < 7; way++) {
            z.board(way);
            z.on(way, 0, 0);
        }
        due("19 a long chain", z.count(4), 0);
    }

    /** As many names, ways, boards, lines and breaks as there may be. */
    private static void promise19Full() {
        SignBoards x = new SignBoards();
        for (int i = 0; i < 24; i++) {
            x.way(i % 10, i % 10, 1 + i);
        }
        for (int i = 0; i < 10; i++) {
            name(x, "N");
            x.goal(i, 9);
        }
        for (int i = 0; i < 8; i++) {
            x.board(i + 16 == 19 ? 0 : i + 16);
            for (int line = 0; line < 5; line++) {
                x.on(i, line + 5 * (i % 2), 0);
            }
        }
        due("19 forty", x.count(4), 40);
        dueBreak(x, 0, 0, 16, 1);
        dueBreak(x, 39, 9, 23, 1);
        dueBreak(x, 40, BAD, BAD, BAD);
        due("19 distance on the last way", x.distance(7, 4), BAD);
        x.goal(9, 3);
        due("19 distance of the last name", x.distance(7, 4), 0);
        due("19 one less", x.count(4), 39);
        due("19 size of the last board", x.size(7, 0, 1), 2400);
        due("19 last item of the last board", x.drawn(7, 1, 9, 1), 1600);
    }

    private static void promise20() {
        SignBoards x = new SignBoards();
        name(x, "A");
        name(x, "B");
        for (int i = 0; i < 3; i++) {
            x.way(0, 1, 1);
        }
        for (int i = 0; i < 4; i++) {
            x.board(i % 3);
        }
        for (int i = 0; i < 5; i++) {
            x.kern('A', 'A' + i, 0);
        }
        for (int i = 0; i < 6; i++) {
            x.on(i % 3, i % 2, 0);
        }
        x.goal(0, 9);
        x.goal(1, 9);
        Check.collect(x, "seven  ");
        int[] want = {2, 3, 4, 5, 6, 7};
        for (int what = 0; what < 6; what++) {
            due("20 count " + what, x.count(what), want[what]);
        }
        for (int bad : new int[] {LEAST, -1, 6, MOST}) {
            due("20 count " + bad, x.count(bad), BAD);
        }
    }
}
