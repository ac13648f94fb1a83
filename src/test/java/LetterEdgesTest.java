/** The edges of promises 5 to 8, sentence by sentence: widths, kerns, heights and fields. */
public final class LetterEdgesTest {
    private static final int BAD = SignBoards.BAD;

    private static final Check CHECK = new Check();

    public static void main(String[] args) {
        widths();
        lettersWithWidths();
        refusedWidths();
        kerns();
        lettersWithKerns();
        sixtyPairs();
        oldPairs();
        refusedKerns();
        speeds();
        steps();
        fields();
        fieldsBelowZero();
        widestAndNarrowest();
        namesWithFields();
        CHECK.finish();
    }

    private static SignBoards named(String rules, String... names) {
        SignBoards x = new SignBoards();
        Check.rules(x, rules);
        for (String each : names) {
            Check.name(x, each);
        }
        return x;
    }

    private static void widths() {
        CHECK.sentence("A letter's width, 0 .. 64.");
        for (int width = -70; width <= 140; width++) {
            SignBoards x = named("h 1 1", "A");
            boolean may = width >= 0 && width <= 64;
            CHECK.due("glyph of width " + width, x.glyph('A', width), may);
            CHECK.due("width behind it", x.width(0, 1), may ? width : 8);
        }
        for (int bad : Check.outside(0, 64)) {
            CHECK.due("glyph of width " + bad, new SignBoards().glyph('A', bad), false);
        }
    }

    private static void lettersWithWidths() {
        CHECK.sentence("A letter's width .. False: none such.");
        for (int u = -300; u <= 700; u++) {
            CHECK.due("glyph of " + u, new SignBoards().glyph(u, 5), u >= 32 && u <= 126);
        }
        for (int bad : Check.outside(32, 126)) {
            CHECK.due("glyph of " + bad, new SignBoards().glyph(bad, 5), false);
        }
        for (int u = 32; u <= 126; u++) {
            char front = (char) (u == 32 ? 126 : u - 1);
            char behind = (char) (u == 126 ? 32 : u + 1);
            SignBoards x = named("h 1 1", "" + (char) u, "" + front, "" + behind);
            x.glyph(u, 64);
            CHECK.due("width of sign " + u, x.width(0, 1), 64);
            CHECK.due("width of the one in front of " + u, x.width(1, 1), 8);
            CHECK.due("width of the one behind " + u, x.width(2, 1), 8);
        }
    }

    private static void refusedWidths() {
        CHECK.sentence("A letter's width .. False: none such.");
        SignBoards x = named("h 1 1", "A", " ", "~");
        x.glyph('A', 3);
        for (int bad : Check.outside(0, 64)) {
            x.glyph('A', bad);
        }
        for (int bad : Check.outside(32, 126)) {
            x.glyph(bad, 7);
        }
        CHECK.due("A as it was", x.width(0, 1), 3);
        CHECK.due("the first letter as it was", x.width(1, 1), 8);
        CHECK.due("the last letter as it was", x.width(2, 1), 8);
    }

    private static void kerns() {
        CHECK.sentence("The kern of two letters, - 16 .. 16 (also 0).");
        for (int v = -40; v <= 40; v++) {
            SignBoards x = named("h 1 1", "AV");
            boolean may = v >= -16 && v <= 16;
            CHECK.due("kern " + v, x.kern('A', 'V', v), may);
            CHECK.due("pairs behind it", x.count(3), may ? 1 : 0);
            CHECK.due("width behind it", x.width(0, 1), may ? 16 + v : 16);
        }
        for (int bad : Check.outside(-16, 16)) {
            CHECK.due("kern " + bad, new SignBoards().kern('A', 'V', bad), false);
        }
    }

    private static void lettersWithKerns() {
        CHECK.sentence("The kern of two letters .. False: none such");
        for (int u = -300; u <= 700; u++) {
            boolean letter = u >= 32 && u <= 126;
            SignBoards x = new SignBoards();
            CHECK.due("kern of " + u + " and A", x.kern(u, 'A', 1), letter);
            CHECK.due("kern of B and " + u, x.kern('B', u, 1), letter);
            CHECK.due("pairs behind it", x.count(3), letter ? 2 : 0);
        }
        for (int bad : Check.outside(32, 126)) {
            CHECK.due("kern of " + bad + " and A", new SignBoards().kern(bad, 'A', 1), false);
            CHECK.due("kern of A and " + bad, new SignBoards().kern('A', bad, 1), false);
        }
        SignBoards x = named("h 1 1", "  ", " ~", "~ ", "~~");
        x.kern(' ', ' ', 1);
        x.kern(' ', '~', 2);
        x.kern('~', ' ', 3);
        x.kern('~', '~', 4);
        for (int name = 0; name < 4; name++) {
            CHECK.due("width with the kern of pair " + name, x.width(name, 1), 17 + name);
        }
    }

    /** An object with so many pairs, all of A and some letter, the kerns of which are 1. */
    private static SignBoards pairs(int pairs) {
        SignBoards x = named("h 1 1", "AA", "AB", "BA", "A}");
        for (int i = 0; i < pairs; i++) {
            CHECK.due("pair number " + (i + 1), x.kern('A', 'A' + i, 1), true);
            CHECK.due("pairs behind it", x.count(3), i + 1);
        }
        return x;
    }

    private static void sixtyPairs() {
        CHECK.sentence("False: .. it is a new pair, and there are 60.");
        CHECK.due("the sixtieth", pairs(59).kern('B', 'A', 1), true);
        for (int v : new int[] {-16, -1, 0, 1, 16}) {
            SignBoards x = pairs(60);
            CHECK.due("a new pair with " + v, x.kern('B', 'A', v), false);
            CHECK.due("another new pair with " + v, x.kern('A', '}', v), false);
            CHECK.due("pairs", x.count(3), 60);
            CHECK.due("width of the new pair", x.width(2, 1), 16);
            CHECK.due("width of the other new pair", x.width(3, 1), 16);
            CHECK.due("width of an old pair", x.width(0, 1), 17);
        }
    }

    private static void oldPairs() {
        CHECK.sentence("it is a new pair");
        for (int pairs : new int[] {2, 59, 60}) {
            SignBoards x = pairs(pairs);
            for (int v : new int[] {-16, 0, 16}) {
                CHECK.due("the first pair again with " + v, x.kern('A', 'A', v), true);
                CHECK.due("width of the first pair", x.width(0, 1), 16 + v);
                CHECK.due("the last pair again with " + v, x.kern('A', 'A' + pairs - 1, v), true);
                CHECK.due("pairs", x.count(3), pairs);
            }
            CHECK.due("width of the second pair", x.width(1, 1), pairs == 2 ? 32 : 17);
        }
    }

    private static void refusedKerns() {
        CHECK.sentence("The kern of two letters .. False: none such");
        SignBoards x = named("h 1 1", "AV", "VA");
        x.kern('A', 'V', 5);
        for (int bad : Check.outside(-16, 16)) {
            x.kern('A', 'V', bad);
            x.kern('V', 'A', bad);
        }
        for (int bad : Check.outside(32, 126)) {
            x.kern('A', bad, 1);
            x.kern(bad, 'V', 1);
        }
        CHECK.due("one pair", x.count(3), 1);
        CHECK.due("its kern as it was", x.width(0, 1), 21);
        CHECK.due("no kern for the other", x.width(1, 1), 16);
    }

    private static void speeds() {
        CHECK.sentence("Letters' height at a speed, in mm. BAD: not 1 .. 999.");
        for (int speed = -100; speed <= 1100; speed++) {
            boolean may = speed >= 1 && speed <= 999;
            CHECK.due("height at " + speed, new SignBoards().height(speed), may ? 100 : BAD);
        }
        for (int bad : Check.outside(1, 999)) {
            CHECK.due("height at " + bad, new SignBoards().height(bad), BAD);
        }
    }

    private static void steps() {
        CHECK.sentence("of the first one that is not below the speed; above all the last one");
        int[] speeds = {1, 2, 50, 400, 999};
        int[] heights = {999, 1, 7, 3, 5};
        String told = "";
        for (int steps = 1; steps <= 5; steps++) {
            told += (steps == 1 ? "h " : ",") + speeds[steps - 1] + " " + heights[steps - 1];
            SignBoards x = named(told);
            for (int i = 0; i < steps; i++) {
                int above = i + 1 < steps ? heights[i + 1] : heights[i];
                CHECK.due(told + " at " + speeds[i], x.height(speeds[i]), heights[i]);
                CHECK.due(told + " above " + speeds[i], x.height(speeds[i] + 1), speeds[i] == 999 ? BAD : above);
                if (i > 0) {
                    int below = speeds[i] - 1 == speeds[i - 1] ? heights[i - 1] : heights[i];
                    CHECK.due(told + " below " + speeds[i], x.height(speeds[i] - 1), below);
                }
            }
            CHECK.due(told + " at 999", x.height(999), heights[steps - 1]);
        }
        CHECK.due("below the first one", named("h 500 3").height(1), 3);
    }

    private static void fields() {
        CHECK.sentence("THE FIELD of a name is its letters' widths, and the kerns of neighbours, together");
        SignBoards x = named("h 10 3,20 7", "A", "AV", "VA", "AVA", "AxV", "AAA");
        x.glyph('A', 10);
        x.glyph('V', 20);
        x.kern('A', 'V', -3);
        x.kern('A', 'A', 5);
        int[] want = {10, 30 - 3, 30, 40 - 3, 38, 30 + 10};
        for (int name = 0; name < want.length; name++) {
            CHECK.due("field of name " + name + " at 10", x.width(name, 10), 3 * want[name]);
            CHECK.due("field of name " + name + " at 11", x.width(name, 11), 7 * want[name]);
        }
    }

    private static void fieldsBelowZero() {
        CHECK.sentence("in units (below 0, if kerns make it so). BAD (which may be one, too)");
        for (int kern = -16; kern <= 16; kern++) {
            SignBoards x = named("h 1 1,2 100", "AB");
            x.glyph('A', 0);
            x.glyph('B', 3);
            x.kern('A', 'B', kern);
            CHECK.due("field with the kern " + kern, x.width(0, 1), 3 + kern);
            CHECK.due("higher field with the kern " + kern, x.width(0, 2), 100 * (3 + kern));
        }
    }

    private static void widestAndNarrowest() {
        CHECK.sentence("A NAME .. has 1 to 12 letters");
        SignBoards x = named("h 1 999", "WWWWWWWWWWWW", "iiiiiiiiiiii", "W", "i");
        x.glyph('W', 64);
        x.kern('W', 'W', 16);
        x.glyph('i', 0);
        x.kern('i', 'i', -16);
        CHECK.due("the widest", x.width(0, 1), (12 * 64 + 11 * 16) * 999);
        CHECK.due("the narrowest", x.width(1, 1), -11 * 16 * 999);
        CHECK.due("the widest letter", x.width(2, 1), 64 * 999);
        CHECK.due("the narrowest letter", x.width(3, 1), 0);
    }

    private static void namesWithFields() {
        CHECK.sentence("A name's field at a speed .. BAD ..: none such.");
        for (int names = 0; names <= 10; names++) {
            SignBoards x = new SignBoards();
            for (int i = 0; i < names; i++) {
                Check.name(x, "x".repeat(1 + i));
            }
            for (int name = -2; name <= 11; name++) {
                boolean is = name >= 0 && name < names;
                CHECK.due("name " + name + " of " + names, x.width(name, 50), is ? 800 * (1 + name) : BAD);
            }
            for (int bad : Check.outside(0, names - 1)) {
                CHECK.due("name " + bad + " of " + names, x.width(bad, 50), BAD);
            }
        }
        SignBoards x = named("h 1 1,999 2", "A");
        CHECK.due("at 1", x.width(0, 1), 8);
        CHECK.due("at 999", x.width(0, 999), 16);
        for (int bad : Check.outside(1, 999)) {
            CHECK.due("at " + bad, x.width(0, bad), BAD);
        }
    }
}
