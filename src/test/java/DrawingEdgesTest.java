import java.util.Arrays;

/** The edges of promises 13, 16 and 17, sentence by sentence: how wide and high boards are, and where signs stand. */
public final class DrawingEdgesTest {
    private static final int BAD = SignBoards.BAD;

    private static final Check CHECK = new Check();

    public static void main(String[] args) {
        wideAtLeast();
        boardsMadeWide();
        refusedWide();
        axes();
        boardsWithSizes();
        speedsOfSizes();
        withoutLines();
        heightsByLines();
        widestLine();
        madeWider();
        largest();
        narrowest();
        items();
        itemsOfFullBoard();
        whats();
        boardsDrawn();
        speedsDrawn();
        arrowsBeside();
        cornerWithoutMargin();
        linesBelowOneAnother();
        halfTheRest();
        restOfLines();
        leftOfTheCorner();
        drawnInOrder();
        CHECK.finish();
    }

    private static void wideAtLeast() {
        CHECK.sentence("A board is made so many mm wide at least (0 .. 10,000; 0 at first).");
        for (int mm : new int[] {0, 1, 2, 9999, 10000}) {
            SignBoards x = Scene.board("", 0);
            CHECK.due("width at first", x.size(0, 0, 1), 0);
            CHECK.due("wide " + mm, x.wide(0, mm), true);
            CHECK.due("width behind it", x.size(0, 0, 1), 16 * mm);
            CHECK.due("height behind it", x.size(0, 1, 1), 0);
        }
        for (int bad : Check.outside(0, 10000)) {
            SignBoards x = Scene.board("", 0);
            CHECK.due("wide " + bad, x.wide(0, bad), false);
            CHECK.due("width behind it", x.size(0, 0, 1), 0);
        }
    }

    private static void boardsMadeWide() {
        CHECK.sentence("A board is made so many mm wide .. False: none such.");
        for (int boards = 0; boards <= 8; boards++) {
            SignBoards x = new SignBoards();
            x.way(0, 1, 1);
            for (int i = 0; i < boards; i++) {
                x.board(0);
            }
            for (int board = -2; board <= 9; board++) {
                boolean is = board >= 0 && board < boards;
                CHECK.due("wide of board " + board + " of " + boards, x.wide(board, 10 + board), is);
            }
            for (int board = 0; board < boards; board++) {
                CHECK.due("width of board " + board + " of " + boards, x.size(board, 0, 1), 16 * (10 + board));
            }
            for (int bad : Check.outside(0, boards - 1)) {
                CHECK.due("wide of board " + bad + " of " + boards, x.wide(bad, 1), false);
            }
        }
    }

    private static void refusedWide() {
        CHECK.sentence("A board is made so many mm wide .. False: none such.");
        SignBoards x = Scene.board("", 0);
        x.board(0);
        x.wide(0, 10000);
        x.wide(1, 7);
        for (int bad : Check.outside(0, 10000)) {
            x.wide(0, bad);
            x.wide(1, bad);
        }
        for (int bad : Check.outside(0, 1)) {
            x.wide(bad, 5);
        }
        CHECK.due("the first as it was", x.size(0, 0, 1), 160000);
        CHECK.due("the second as it was", x.size(1, 0, 1), 16 * 7);
        CHECK.due("less wide again", x.wide(0, 3), true);
        CHECK.due("width behind it", x.size(0, 0, 1), 16 * 3);
        x.board(0);
        CHECK.due("a refused one is not kept for a later board", x.size(2, 0, 1), 0);
    }

    private static void axes() {
        CHECK.sentence("A board's width (axis 0) or height (1) at a speed, in units");
        for (int axis = -3; axis <= 4; axis++) {
            SignBoards x = Scene.board("m 2 1", 0, "A");
            int want = axis == 0 ? 800 + 16 * 105 : axis == 1 ? 16 * 104 : BAD;
            CHECK.due("axis " + axis, x.size(0, axis, 1), want);
        }
        for (int bad : Check.outside(0, 1)) {
            CHECK.due("axis " + bad, Scene.board("", 0, "A").size(0, bad, 1), BAD);
        }
    }

    private static void boardsWithSizes() {
        CHECK.sentence("A board's width .. BAD ..: none such.");
        for (int boards = 0; boards <= 8; boards++) {
            SignBoards x = new SignBoards();
            Check.rules(x, "m 2 1");
            x.way(0, 1, 1);
            for (int i = 0; i < boards; i++) {
                x.board(0);
            }
            for (int board = -2; board <= 9; board++) {
                boolean is = board >= 0 && board < boards;
                CHECK.due("width of board " + board + " of " + boards, x.size(board, 0, 1), is ? 64 : BAD);
                CHECK.due("height of board " + board + " of " + boards, x.size(board, 1, 1), is ? 64 : BAD);
            }
            for (int bad : Check.outside(0, boards - 1)) {
                CHECK.due("width of board " + bad + " of " + boards, x.size(bad, 0, 1), BAD);
            }
        }
    }

    private static void speedsOfSizes() {
        CHECK.sentence("A board's width .. at a speed .. BAD ..: none such.");
        SignBoards x = Scene.board("h 1 1,2 2,998 3,999 4", 0, "A");
        int[][] cases = {{1, 1}, {2, 2}, {3, 3}, {998, 3}, {999, 4}};
        for (int[] each : cases) {
            CHECK.due("width at " + each[0], x.size(0, 0, each[0]), 24 * each[1]);
            CHECK.due("height at " + each[0], x.size(0, 1, each[0]), 16 * each[1]);
        }
        for (int bad : Check.outside(1, 999)) {
            CHECK.due("width at " + bad, x.size(0, 0, bad), BAD);
            CHECK.due("height at " + bad, x.size(0, 1, bad), BAD);
        }
    }

    private static void withoutLines() {
        CHECK.sentence("(without lines that of both margins, and what it was made wider to)");
        for (int margin : new int[] {0, 1, 5, 999}) {
            SignBoards x = Scene.board("m " + margin + " 7", 0);
            CHECK.due("width of both margins " + margin, x.size(0, 0, 1), 32 * margin);
            CHECK.due("height of both margins " + margin, x.size(0, 1, 1), 32 * margin);
            for (int more = -1; more <= 1; more++) {
                x.wide(0, Math.max(2 * margin + more, 0));
                CHECK.due("width, wider by " + more, x.size(0, 0, 1), 16 * (2 * margin + Math.max(more, 0)));
                CHECK.due("height, wider by " + more, x.size(0, 1, 1), 32 * margin);
            }
        }
    }

    private static void heightsByLines() {
        CHECK.sentence("each H high (letters' height), GAP between them, MARGIN around");
        String[] names = {"A", "BB", "CCC", "D", "E"};
        for (int lines = 0; lines <= 5; lines++) {
            SignBoards x = Scene.board("h 1 10;m 3 2", 0, Arrays.copyOf(names, lines));
            int gaps = lines == 0 ? 0 : lines - 1;
            CHECK.due("height with " + lines + " lines", x.size(0, 1, 1), 16 * (10 * lines + 2 * gaps + 6));
        }
    }

    private static void widestLine() {
        CHECK.sentence("an arrow is H wide, with GAP beside it .. WIDTH is that of the widest line, and both margins");
        String[] names = {"x", "x", "x", "x", "x"};
        for (int widest = 0; widest < 5; widest++) {
            for (int arrow = 0; arrow <= 2; arrow++) {
                String[] told = names.clone();
                told[widest] = "xxx";
                SignBoards x = Scene.board("h 1 10;m 3 2", arrow, told);
                CHECK.due("width, line " + widest + " is widest", x.size(0, 0, 1), 240 + 16 * (10 + 2 + 6));
            }
        }
    }

    private static void madeWider() {
        CHECK.sentence("or what it is made wider to, if that is more");
        SignBoards x = Scene.board("h 50 10;m 7 2", 0, "AB");
        for (int mm : new int[] {0, 35, 36, 37, 10000}) {
            x.wide(0, mm);
            CHECK.due("made " + mm + " wide", x.size(0, 0, 50), 16 * Math.max(mm, 36));
            CHECK.due("height", x.size(0, 1, 50), 16 * 24);
        }
        SignBoards y = Scene.board("h 50 1", 0, "i");
        for (int width = 0; width <= 40; width++) {
            y.glyph('i', width);
            y.wide(0, 2);
            CHECK.due("a letter of " + width + ", made 2 wide", y.size(0, 0, 50), Math.max(16 + width, 32));
        }
    }

    private static void largest() {
        CHECK.sentence("A board's width (axis 0) or height (1) at a speed, in units");
        SignBoards x = Scene.board("h 1 999;m 999 999", 0, "WWWWWWWWWWWW", "A", "B", "C", "D");
        x.glyph('W', 64);
        x.kern('W', 'W', 16);
        CHECK.due("the widest", x.size(0, 0, 1), 999 * (12 * 64 + 11 * 16 + 4 * 16));
        CHECK.due("the highest", x.size(0, 1, 1), 999 * 16 * (5 + 4 + 2));
    }

    private static void narrowest() {
        CHECK.sentence("made so many mm wide at least (..; 0 at first)");
        SignBoards x = Scene.board("h 1 1", 0, "ii");
        x.glyph('i', 0);
        for (int kern = -16; kern <= 0; kern++) {
            x.kern('i', 'i', kern);
            CHECK.due("with the kern " + kern, x.size(0, 0, 1), 16 + kern);
        }
        SignBoards y = Scene.board("h 1 1", 0, "iii");
        y.glyph('i', 0);
        y.kern('i', 'i', -16);
        CHECK.due("a line below 0", y.size(0, 0, 1), 0);
        y.wide(0, 1);
        CHECK.due("a line below 0, made 1 wide", y.size(0, 0, 1), 16);
        Check.rules(y, "h 1 1;m 2 0");
        CHECK.due("a line below 0 between margins", y.size(0, 0, 1), 64 - 16);
        y.wide(0, 3);
        CHECK.due("the same, made just as wide", y.size(0, 0, 1), 48);
        y.wide(0, 4);
        CHECK.due("the same, made wider", y.size(0, 0, 1), 64);
        CHECK.due("its arrow is shifted by half the rest", y.drawn(0, 1, 0, 1), 32 + 8);
    }

    private static void items() {
        CHECK.sentence("How it is drawn at a speed, item by item: line by line the arrow, then each letter.");
        CHECK.due("item 0 of none", Scene.board("", 0).drawn(0, 1, 0, 0), BAD);
        for (int arrow = 0; arrow <= 2; arrow++) {
            SignBoards x = Scene.board("", arrow, "A", " ~", "xyz");
            int sign = 200 + arrow;
            int[] want = {BAD, sign, 'A', sign, ' ', '~', sign, 'x', 'y', 'z', BAD};
            for (int i = 0; i < want.length; i++) {
                CHECK.due("item " + (i - 1), x.drawn(0, 1, i - 1, 0), want[i]);
            }
            for (int bad : Check.outside(0, 8)) {
                for (int what = 0; what <= 2; what++) {
                    CHECK.due("item " + bad + ", what " + what, x.drawn(0, 1, bad, what), BAD);
                }
            }
        }
    }

    private static void itemsOfFullBoard() {
        CHECK.sentence("LINES (at most 5) .. 1 to 12 letters");
        String[] names = {"abcdefghijkl", "bcdefghijklm", "cdefghijklmn", "defghijklmno", "efghijklmnop"};
        SignBoards x = Scene.board("", 0, names);
        for (int k = 0; k < 65; k++) {
            int want = k % 13 == 0 ? 200 : 'a' + k / 13 + k % 13 - 1;
            CHECK.due("item " + k, x.drawn(0, 1, k, 0), want);
            CHECK.due("left of item " + k, x.drawn(0, 1, k, 1), k % 13 == 0 ? 0 : 1600 + 800 * (k % 13 - 1));
            CHECK.due("top of item " + k, x.drawn(0, 1, k, 2), k / 13 * 1600);
        }
        CHECK.due("item 65", x.drawn(0, 1, 65, 0), BAD);
        CHECK.due("left of item 65", x.drawn(0, 1, 65, 1), BAD);
        CHECK.due("top of item 65", x.drawn(0, 1, 65, 2), BAD);
    }

    private static void whats() {
        CHECK.sentence("What 0: 200 and the arrow, or the letter; 1, 2 where its upper left corner is, in units.");
        for (int arrow = 0; arrow <= 2; arrow++) {
            SignBoards x = Scene.board("h 1 10;m 3 2", arrow, "A");
            int[] ofArrow = {BAD, 200 + arrow, 48 + (arrow == 2 ? 80 + 32 : 0), 48, BAD};
            int[] ofLetter = {BAD, 'A', 48 + (arrow == 2 ? 0 : 160 + 32), 48, BAD};
            for (int i = 0; i < 5; i++) {
                CHECK.due("arrow " + arrow + ", what " + (i - 1), x.drawn(0, 1, 0, i - 1), ofArrow[i]);
                CHECK.due("letter, what " + (i - 1), x.drawn(0, 1, 1, i - 1), ofLetter[i]);
            }
            for (int bad : Check.outside(0, 2)) {
                CHECK.due("arrow, what " + bad, x.drawn(0, 1, 0, bad), BAD);
                CHECK.due("letter, what " + bad, x.drawn(0, 1, 1, bad), BAD);
            }
        }
    }

    private static void boardsDrawn() {
        CHECK.sentence("How it is drawn .. BAD ..: none such.");
        for (int boards = 0; boards <= 8; boards++) {
            SignBoards x = new SignBoards();
            x.way(0, 1, 1);
            Check.name(x, "A");
            for (int i = 0; i < boards; i++) {
                x.board(0);
                x.on(i, 0, i % 3);
            }
            for (int board = -2; board <= 9; board++) {
                boolean is = board >= 0 && board < boards;
                CHECK.due("board " + board + " of " + boards, x.drawn(board, 1, 0, 0), is ? 200 + board % 3 : BAD);
            }
            for (int bad : Check.outside(0, boards - 1)) {
                CHECK.due("board " + bad + " of " + boards, x.drawn(bad, 1, 0, 0), BAD);
            }
        }
    }

    private static void speedsDrawn() {
        CHECK.sentence("How it is drawn at a speed .. BAD ..: none such.");
        SignBoards x = Scene.board("h 1 1,2 2,998 3,999 4", 0, "A");
        int[][] cases = {{1, 1}, {2, 2}, {3, 3}, {998, 3}, {999, 4}};
        for (int[] each : cases) {
            CHECK.due("left of the letter at " + each[0], x.drawn(0, each[0], 1, 1), 16 * each[1]);
        }
        for (int bad : Check.outside(1, 999)) {
            for (int what = 0; what <= 2; what++) {
                CHECK.due("at " + bad + ", what " + what, x.drawn(0, bad, 0, what), BAD);
            }
        }
    }

    private static void arrowsBeside() {
        CHECK.sentence("it stands left of the name for 0 and 1, right for 2");
        for (int gap : new int[] {0, 1, 999}) {
            for (int arrow = 0; arrow <= 2; arrow++) {
                SignBoards x = Scene.board("h 1 10;m 3 " + gap, arrow, "AV");
                x.kern('A', 'V', -3);
                int name = arrow == 2 ? 48 : 48 + 160 + 16 * gap;
                CHECK.due("arrow " + arrow, x.drawn(0, 1, 0, 1), arrow == 2 ? 48 + 130 + 16 * gap : 48);
                CHECK.due("first letter", x.drawn(0, 1, 1, 1), name);
                CHECK.due("second letter", x.drawn(0, 1, 2, 1), name + 50);
            }
        }
    }

    private static void cornerWithoutMargin() {
        CHECK.sentence("The upper left corner is 0, 0.");
        for (int arrow = 0; arrow <= 2; arrow++) {
            SignBoards x = Scene.board("", arrow, "A");
            int first = arrow == 2 ? 1 : 0;
            CHECK.due("left with arrow " + arrow, x.drawn(0, 1, first, 1), 0);
            CHECK.due("top with arrow " + arrow, x.drawn(0, 1, first, 2), 0);
            CHECK.due("the other one's left", x.drawn(0, 1, 1 - first, 1), arrow == 2 ? 800 : 1600);
            CHECK.due("the other one's top", x.drawn(0, 1, 1 - first, 2), 0);
        }
    }

    private static void linesBelowOneAnother() {
        CHECK.sentence("each H high (letters' height), GAP between them, MARGIN around");
        int[][] cases = {{0, 0}, {3, 0}, {0, 2}, {3, 2}, {999, 999}};
        for (int[] each : cases) {
            SignBoards x = Scene.board("h 1 10;m " + each[0] + " " + each[1], 0, "A", "B", "C", "D", "E");
            for (int line = 0; line < 5; line++) {
                int top = 16 * (each[0] + line * (10 + each[1]));
                CHECK.due("top of arrow " + line, x.drawn(0, 1, 2 * line, 2), top);
                CHECK.due("top of letter " + line, x.drawn(0, 1, 2 * line + 1, 2), top);
            }
        }
    }

    private static void halfTheRest() {
        CHECK.sentence("A line whose board is wider than it needs is shifted by half the rest (cut off).");
        for (int margin = 0; margin <= 1; margin++) {
            SignBoards x = Scene.board("h 1 1;m " + margin + " 0", 0, "i");
            x.wide(0, 2 + 2 * margin);
            for (int width = 0; width <= 20; width++) {
                x.glyph('i', width);
                int shift = width < 16 ? (16 - width) / 2 : 0;
                CHECK.due("arrow with a rest of " + (16 - width), x.drawn(0, 1, 0, 1), 16 * margin + shift);
                CHECK.due("letter with a rest of " + (16 - width), x.drawn(0, 1, 1, 1), 16 * margin + shift + 16);
                CHECK.due("top", x.drawn(0, 1, 0, 2), 16 * margin);
            }
        }
        SignBoards y = Scene.board("", 2, "A");
        y.wide(0, 10000);
        CHECK.due("letter on the widest board", y.drawn(0, 1, 1, 1), (160000 - 2400) / 2);
        CHECK.due("arrow on the widest board", y.drawn(0, 1, 0, 1), (160000 - 2400) / 2 + 800);
    }

    private static void restOfLines() {
        CHECK.sentence("A line whose board is wider than it needs is shifted by half the rest (cut off).");
        for (int width = 0; width <= 20; width++) {
            SignBoards x = Scene.board("h 1 1;m 2 1", 0, "A", "i");
            x.glyph('A', 20);
            x.glyph('i', width);
            CHECK.due("the widest line", x.drawn(0, 1, 0, 1), 32);
            CHECK.due("the other one, " + (20 - width) + " less wide", x.drawn(0, 1, 2, 1), 32 + (20 - width) / 2);
            CHECK.due("its letter", x.drawn(0, 1, 3, 1), 32 + (20 - width) / 2 + 32);
        }
    }

    private static void leftOfTheCorner() {
        CHECK.sentence("BAD (which may be one, too)");
        SignBoards x = Scene.board("h 1 1", 2, "ij");
        x.glyph('i', 0);
        for (int kern = -16; kern <= 0; kern++) {
            x.kern('i', 'j', kern);
            x.glyph('j', 0);
            CHECK.due("second letter with the kern " + kern, x.drawn(0, 1, 2, 1), kern);
            CHECK.due("arrow behind it", x.drawn(0, 1, 0, 1), kern);
            x.glyph('j', 1);
            CHECK.due("arrow behind a wider one", x.drawn(0, 1, 0, 1), kern + 1);
        }
    }

    private static void drawnInOrder() {
        CHECK.sentence("DRAWN at a speed, a board has its lines in order");
        SignBoards x = Scene.board("o a", 1, "c", "a", "b");
        int[] byLetters = {201, 'a', 201, 'b', 201, 'c', BAD};
        for (int k = 0; k < byLetters.length; k++) {
            CHECK.due("by letters, item " + k, x.drawn(0, 1, k, 0), byLetters[k]);
        }
        x.goal(2, 1);
        Check.rules(x, "o f");
        int[] farthest = {201, 'b', 201, 'c', 201, 'a', BAD};
        for (int k = 0; k < farthest.length; k++) {
            CHECK.due("farthest first, item " + k, x.drawn(0, 1, k, 0), farthest[k]);
        }
    }
}
