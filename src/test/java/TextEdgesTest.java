/** The edges of promises 1 to 4, sentence by sentence: new objects, signs, rules and names. */
public final class TextEdgesTest {
    private static final int BAD = SignBoards.BAD;
    private static final String FULL_RULES = "h 10 20,30 40;m 3 5;o a";

    private static final Check CHECK = new Check();

    public static void main(String[] args) {
        nothingAtFirst();
        asAtFirst();
        newBesideAnother();
        signs();
        room();
        roomAgain();
        keptSigns();
        rulesAreGone();
        howMany();
        asAtFirstAgain();
        numberOfTheSign();
        tooEarly();
        wrongNumbers();
        risingSpeeds();
        lettersAgain();
        oneToFiveSpeeds();
        rulesStay();
        firstSigns();
        orderSigns();
        betweenRules();
        blanks();
        margins();
        lettersOfNames();
        tenNames();
        namesAreGone();
        CHECK.finish();
    }

    private static void dueRules(String text, int want) {
        CHECK.due("rules of '" + text + "'", Check.rules(new SignBoards(), text), want);
    }

    /** The sign behind the bar is the first that is wrong. */
    private static void dueWrong(String marked) {
        dueRules(marked.replace("|", ""), -1 - marked.indexOf('|'));
    }

    private static void nothingAtFirst() {
        CHECK.sentence("No names, ways, boards");
        for (int what = 0; what <= 5; what++) {
            CHECK.due("count " + what, new SignBoards().count(what), 0);
        }
        SignBoards x = new SignBoards();
        CHECK.due("width", x.width(0, 50), BAD);
        CHECK.due("goal", x.goal(0, 0), false);
        CHECK.due("board", x.board(0), BAD);
        CHECK.due("wide", x.wide(0, 0), false);
        CHECK.due("row", x.row(0, 0), BAD);
        CHECK.due("size", x.size(0, 0, 50), BAD);
        CHECK.due("shows", x.shows(0, 0), false);
        CHECK.due("breaks", x.breaks(0, 0), BAD);
    }

    private static void asAtFirst() {
        CHECK.sentence("each has a WIDTH .. (8 at first), each two behind one another a KERN, likewise (0 at first)");
        for (int first = 32; first <= 126; first++) {
            SignBoards one = new SignBoards();
            CHECK.due("width of sign " + first, one.width(Check.name(one, "" + (char) first), 50), 800);
            for (int second = 32; second <= 126; second++) {
                SignBoards two = new SignBoards();
                int name = Check.name(two, "" + (char) first + (char) second);
                CHECK.due("width of signs " + first + ", " + second, two.width(name, 50), 1600);
            }
        }
        CHECK.sentence("At first: 100 up to 50.");
        for (int speed : new int[] {1, 49, 50, 51, 999}) {
            CHECK.due("height at " + speed, new SignBoards().height(speed), 100);
        }
        CHECK.sentence("in mm (0 and 0 at first). .. as told (at first)");
        SignBoards x = Scene.board("", 0, "b", "a");
        CHECK.due("width with no margin and gap", x.size(0, 0, 50), 800 + 1600);
        CHECK.due("height with no margin and gap", x.size(0, 1, 50), 3200);
        CHECK.due("first row", x.row(0, 0), 0);
        CHECK.due("second row", x.row(0, 1), 1);
    }

    private static void newBesideAnother() {
        CHECK.sentence("SignBoards(): No names, ways, boards; all at first.");
        String before = Look.of(SignBoards::new);
        Scene.full().rules();
        Scene.some().rules();
        CHECK.due("a new object beside others", Look.of(SignBoards::new), before);
    }

    private static void signs() {
        CHECK.sentence("A sign of 32 .. 126 is collected .. False: another one");
        for (int u = -300; u <= 700; u++) {
            SignBoards x = new SignBoards();
            boolean letter = u >= 32 && u <= 126;
            CHECK.due("unit " + u, x.unit(u), letter);
            CHECK.due("count behind unit " + u, x.count(5), letter ? 1 : 0);
        }
        for (int bad : Check.outside(32, 126)) {
            SignBoards x = new SignBoards();
            CHECK.due("unit " + bad, x.unit(bad), false);
            CHECK.due("count behind unit " + bad, x.count(5), 0);
        }
        CHECK.due("unit 65536 above a letter", new SignBoards().unit(65536 + 'A'), false);
    }

    private static void room() {
        CHECK.sentence("is collected, at most 100. False: .. no room");
        SignBoards x = new SignBoards();
        for (int i = 1; i <= 100; i++) {
            CHECK.due("sign number " + i, x.unit('a'), true);
            CHECK.due("count", x.count(5), i);
        }
        CHECK.due("sign number 101", x.unit('a'), false);
        CHECK.due("sign number 101, another", x.unit(32), false);
        CHECK.due("count", x.count(5), 100);
    }

    private static void roomAgain() {
        CHECK.sentence("What was collected becomes .., and is gone");
        String good = "o n" + " ".repeat(97);
        SignBoards x = new SignBoards();
        for (String each : new String[] {good, "x".repeat(100)}) {
            CHECK.due("a full text of rules is told", Check.rules(x, each) > 0, each.equals(good));
            CHECK.due("room behind it", x.unit('a'), true);
            CHECK.due("one sign", x.count(5), 1);
            x.name();
        }
        CHECK.due("a name of 100", Check.name(x, "x".repeat(100)), BAD);
        CHECK.due("room behind it", x.unit('a'), true);
    }

    private static void keptSigns() {
        CHECK.sentence("False: another one, no room.");
        SignBoards x = Scene.board("", 0);
        x.unit('A');
        x.unit(31);
        x.unit('B');
        x.unit(127);
        x.on(0, x.name(), 0);
        CHECK.due("first letter", x.drawn(0, 50, 1, 0), 'A');
        CHECK.due("second letter", x.drawn(0, 50, 2, 0), 'B');
        CHECK.due("third letter", x.drawn(0, 50, 3, 0), BAD);
        dueRules("m 0 0" + " ".repeat(95) + "x", 1);
        dueRules(" ".repeat(97) + "o a" + "x", 1);
        dueRules(" ".repeat(98) + "o a", -101);
    }

    private static void rulesAreGone() {
        CHECK.sentence("What was collected becomes the rules, and is gone");
        for (String text : new String[] {"", "o n", FULL_RULES, "x", "h 5", "o n;", "h 5 5,5 5"}) {
            SignBoards x = new SignBoards();
            Check.rules(x, text);
            CHECK.due("count behind '" + text + "'", x.count(5), 0);
            CHECK.due("rules once more", x.rules(), -1);
            CHECK.due("rules told anew", Check.rules(x, "o n"), 1);
        }
    }

    private static void howMany() {
        CHECK.sentence("RULES are a text of one or more, with ; between, of each letter at most one");
        String[] one = {"h 5 5", "m 1 2", "o n"};
        for (int a = 0; a < 3; a++) {
            dueRules(one[a], 1);
            for (int b = 0; b < 3; b++) {
                if (b != a) {
                    String two = one[a] + ";" + one[b];
                    dueRules(two, 2);
                    dueRules(two + ";" + one[3 - a - b], 3);
                    dueWrong(two + ";" + one[3 - a - b] + ";|" + one[a]);
                    dueWrong(two + ";" + one[3 - a - b] + ";|x");
                    dueRules(two + ";" + one[3 - a - b] + ";", -1 - two.length() - one[3 - a - b].length() - 2);
                }
            }
        }
        dueRules("", -1);
    }

    private static void asAtFirstAgain() {
        CHECK.sentence("what no rule tells is as at first");
        // Told after rules of each letter: the height at 11, the board's height there, the first row.
        String[] texts = {
            FULL_RULES, "h 10 20,30 40", "m 3 5", "o a", "m 3 5;o a", "h 10 20,30 40;o a", "h 10 20,30 40;m 3 5",
        };
        int[][] want = {
            {40, 80 + 5 + 6, 1}, {40, 80, 0}, {100, 200 + 5 + 6, 0}, {100, 200, 1}, {100, 200 + 5 + 6, 1}, {40, 80, 1},
            {40, 80 + 5 + 6, 0},
        };
        // Other rules are told, or refused, several times before, so that none of them may be left over.
        String[][] before = {
            {}, {FULL_RULES}, {FULL_RULES, FULL_RULES}, {FULL_RULES, FULL_RULES, FULL_RULES},
            {"h 7 7;m 9 9;o f;x"}, {FULL_RULES, "h 7 7;m 9 9;o f;x"}, {"h 7 7;m 9 9;o f", FULL_RULES, "m 9 9;"},
        };
        for (String[] each : before) {
            for (int i = 0; i < texts.length; i++) {
                SignBoards x = Scene.board("", 0, "b", "a");
                for (String text : each) {
                    Check.rules(x, text);
                }
                Check.rules(x, texts[i]);
                CHECK.due("height behind " + texts[i], x.height(11), want[i][0]);
                CHECK.due("size behind " + texts[i], x.size(0, 1, 11), 16 * want[i][1]);
                CHECK.due("row behind " + texts[i], x.row(0, 0), want[i][2]);
            }
        }
        SignBoards x = new SignBoards();
        for (int i = 0; i < 3; i++) {
            Check.rules(x, "h 1 1,2 2,3 3,4 4,5 5");
        }
        Check.rules(x, "h 3 7");
        CHECK.due("of five speeds only the new one", x.height(1), 7);
        CHECK.due("of five speeds only the new one", x.height(5), 7);
        Check.rules(x, "o n");
        for (int speed = 1; speed <= 6; speed++) {
            CHECK.due("no speeds, height at " + speed, x.height(speed), 100);
        }
    }

    private static void numberOfTheSign() {
        CHECK.sentence("- 1 less the number of its first sign that is wrong (from 0");
        dueWrong("|x");
        dueWrong(" |x");
        dueWrong(" ".repeat(98) + "|x");
        dueWrong(" ".repeat(99) + "|x");
        dueWrong("o n" + " ".repeat(96) + "|x");
        dueWrong("|x" + "y".repeat(99));
        dueWrong("o |x;y");
    }

    private static void tooEarly() {
        CHECK.sentence("if it ends too early, the one behind the last, so - 1 of an empty text");
        String text = "h 5 5,66 66;m 1 2;o n";
        // Behind each sign: whether the text may end there, and with how many rules (0: not).
        String ends = "0000" + "1" + "000" + "0" + "11" + "0" + "000" + "0" + "2" + "0" + "00" + "3";
        dueRules("", -1);
        for (int length = 1; length <= text.length(); length++) {
            int count = ends.charAt(length - 1) - '0';
            dueRules(text.substring(0, length), count > 0 ? count : -1 - length);
            dueRules(text.substring(0, length) + "  ", count > 0 ? count : -3 - length);
        }
        dueRules(" ", -2);
        dueRules(" ".repeat(100), -101);
        dueRules("o n" + " ".repeat(96) + ";", -101);
        dueRules(" ".repeat(94) + "h 5 5,", -101);
    }

    private static void wrongNumbers() {
        CHECK.sentence("Numbers have 1 to 3 digits, no 0 in front but 0 itself; SPEED and HEIGHT are not 0.");
        String[] never = {
            "00", "01", "09", "000", "001", "010", "0000", "1000", "9999", "10000", "4294967297", "9".repeat(40),
        };
        String[] always = {"1", "9", "10", "99", "100", "101", "998", "999"};
        String[] none = {"x", "-1", "+1", ".", "/1", ":", "n", "o", ",", ";"};
        for (String place : new String[] {"h # 1", "h 5 #", "m # 1", "m 1 #", "h 5 5, 6 #;o n"}) {
            for (String each : always) {
                CHECK.due(place + " with " + each, Check.rules(new SignBoards(), place.replace("#", each)) > 0, true);
            }
            for (String each : never) {
                dueWrong(place.replace("#", "|" + each));
                dueWrong(place.substring(0, place.indexOf('#')) + "|" + each);
            }
            for (String each : none) {
                dueWrong(place.replace("#", "|" + each));
            }
        }
        for (String last : new String[] {"1 1,#", "1 1,2 2,#", "1 1,2 2,3 3,#", "1 1,2 2,3 3,4 4,#"}) {
            dueRules("h " + last.replace("#", "999 999"), 1);
            for (String each : never) {
                dueWrong("h " + last.replace("#", "|" + each + " 1"));
                dueWrong("h " + last.replace("#", "7 |" + each));
            }
            dueWrong("h " + last.replace("#", "|0 1"));
            dueWrong("h " + last.replace("#", "7 |0"));
        }
        dueWrong("h |0 1");
        dueWrong("h 1 |0");
        dueRules("m 0 1", 1);
        dueRules("m 1 0", 1);
        dueRules("m 0 0", 1);
    }

    private static void risingSpeeds() {
        CHECK.sentence("(rising; ..) .. of .. a speed that does not rise, its first digit");
        String before = "h 10 1";
        for (int steps = 2; steps <= 5; steps++) {
            int last = 10 * (steps - 1);
            for (int speed : new int[] {last, last - 1, 1}) {
                dueWrong(before + ",|" + speed + " 1");
                dueWrong(before + " ,  |" + speed);
            }
            dueRules(before + "," + (last + 1) + " 1", 1);
            before += "," + 10 * steps + " 1";
        }
        dueRules("h 998 1,999 1", 1);
        dueWrong("h 999 1,|999 1");
        dueWrong("h 100 1,|99 1");
        dueRules("h 9 1,10 1,99 1,100 1", 1);
        dueRules("h 1 9,2 9,3 1,4 5", 1);
    }

    private static void lettersAgain() {
        CHECK.sentence("of a letter that comes again, .. its sign");
        String[] wrong = {
            "h 5 5;|h 6 6", "m 1 2;|m 1 2", "o n;|o n", "h 5 5;|h", "m 1 2;|m", "o n;|o", "h 5 5 ;  |h",
            "h 5 5;m 1 2;|h 5 5", "h 5 5;m 1 2;|m 1 2", "o n;h 5 5;|o t", "o n;h 5 5;m 1 2;|o t",
            "o n;h 5 5;m 1 2; |h", "o n;h 5 5;m 1 2;|m", "h 5 5;|h 0 0", "o n;|ox",
        };
        for (String each : wrong) {
            dueWrong(each);
        }
    }

    private static void oneToFiveSpeeds() {
        CHECK.sentence("(rising; 1 to 5 of them) .. of .. a sixth speed, its sign");
        dueRules("h", -2);
        dueWrong("h|;");
        dueWrong("h|,");
        dueWrong("h|;m 1 2");
        String five = "h 1 1,2 2,3 3,4 4,5 5";
        String some = "h 1 1";
        for (int speed = 2; speed <= 5; speed++) {
            dueRules(some, 1);
            some += "," + speed + " " + speed;
        }
        dueRules(five, 1);
        dueRules(five + " ; o n", 2);
        for (String sixth : new String[] {"6 6", "999 1", "6", "5 5", "1 1", "0 1", "06 6", "1000 1", "6 6,7 7"}) {
            dueWrong(five + ",|" + sixth);
            dueWrong(five + " ,  |" + sixth);
            dueWrong("o n;" + five + ",|" + sixth);
        }
        dueWrong(five + ",|x");
        dueWrong(five + ",|,");
        dueWrong(five + "|x");
        dueRules(five + ",", -1 - five.length() - 1);
        dueRules(five + ", ", -1 - five.length() - 2);
    }

    private static void rulesStay() {
        CHECK.sentence("rules stay as they were");
        String[] wrong = {
            "", " ", "x", "h 7 7;x", "m 9 9;x", "o t;x", "h 7 7;m 9 9;o t;x", "h 7 7;m 9 9;o t;",
            "h 7 7,8 8,9 9,10 10,11 11,12 12", "h 7 7,6 6", "h 7 7,8", "m 9", "m 9 1000", "o", "o x", "o t;o t",
            "h 7 7;h 7 7", "m 9 9 9", "o t t",
        };
        for (String each : wrong) {
            SignBoards x = Scene.board(FULL_RULES, 0, "b", "a");
            CHECK.due("'" + each + "' is wrong", Check.rules(x, each) < 0, true);
            CHECK.due("height at 10 behind '" + each + "'", x.height(10), 20);
            CHECK.due("height at 11 behind '" + each + "'", x.height(11), 40);
            CHECK.due("height at 999 behind '" + each + "'", x.height(999), 40);
            CHECK.due("width behind '" + each + "'", x.size(0, 0, 10), 160 + 16 * (20 + 5 + 6));
            CHECK.due("size behind '" + each + "'", x.size(0, 1, 10), 16 * (40 + 5 + 6));
            CHECK.due("row behind '" + each + "'", x.row(0, 0), 1);
            SignBoards y = Scene.board(each, 0, "b", "a");
            CHECK.due("height as at first behind '" + each + "'", y.height(7), 100);
            CHECK.due("size as at first behind '" + each + "'", y.size(0, 1, 7), 3200);
            CHECK.due("row as at first behind '" + each + "'", y.row(0, 0), 0);
        }
    }

    private static void firstSigns() {
        CHECK.sentence("h SPEED HEIGHT .. m MARGIN GAP .. o n");
        for (int sign = 33; sign <= 126; sign++) {
            boolean letter = sign == 'h' || sign == 'm' || sign == 'o';
            String text = "" + (char) sign;
            dueRules(text, letter ? -2 : -1);
            dueRules("h 5 5;" + text, sign == 'm' || sign == 'o' ? -8 : -7);
        }
    }

    private static void orderSigns() {
        CHECK.sentence("o n or o f, o a, o t");
        for (int sign = 33; sign <= 126; sign++) {
            boolean order = sign == 'n' || sign == 'f' || sign == 'a' || sign == 't';
            dueRules("o " + (char) sign, order ? 1 : -3);
            dueRules("o" + (char) sign + ";m 1 2", order ? 2 : -2);
        }
        dueRules("o ", -3);
        dueWrong("o n|f");
        dueWrong("o n |n");
        dueWrong("o n|,f");
    }

    private static void betweenRules() {
        CHECK.sentence("RULES are a text of one or more, with ; between");
        String[] wrong = {
            "|;", "|;o n", "o n;|;", "o n;|;m 1 2", "o n; |;m 1 2", "o n|,m 1 2", "o n |m 1 2", "o n|m 1 2",
            "m 1 2|o n", "m 1 2 |3", "h 5 5|o n", "h 5 5 |m 1 2", "h 5 5,|;o n", "h 5 5,|o n", "h 5 5 |6 6",
            "h 5|,5", "h 5|;5", "m 1|,2", "m 1|;2", "m|;", "o|;",
        };
        for (String each : wrong) {
            dueWrong(each);
        }
        for (int sign = 33; sign <= 126; sign++) {
            if (sign != ';') {
                dueRules("o n" + (char) sign, -4);
                dueRules("m 1 2 " + (char) sign, -7);
            }
            if (sign != ';' && sign != ',') {
                dueRules("h 5 5 " + (char) sign, -7);
            }
        }
    }

    private static void blanks() {
        CHECK.sentence("blanks as one likes between all these");
        String tight = "h5 5,6 6;m1 2;oa";
        dueRules(tight, 3);
        dueRules(" h 5 5 , 6 6 ; m 1 2 ; o a ", 3);
        dueRules("   h   5   5   ,   6   6   ;   m   1   2   ;   o   a   ", 3);
        for (int place = 0; place <= tight.length(); place++) {
            dueRules(tight.substring(0, place) + "   " + tight.substring(place), 3);
        }
        dueRules("h55", -4);
        dueRules("m12", -4);
        dueWrong("h 5 5 |5");
        dueWrong("h 1 |0 5");
        dueWrong("m 1 2 |3");
        dueWrong("h 5 5,6 6 |6");
        SignBoards x = Scene.board(" h  5  7 ,  6  8 ; m  1  2 ; o  a ", 0, "b", "a");
        CHECK.due("height at 5", x.height(5), 7);
        CHECK.due("height at 6", x.height(6), 8);
        CHECK.due("size", x.size(0, 1, 5), 16 * (14 + 2 + 2));
        CHECK.due("row", x.row(0, 0), 1);
    }

    private static void margins() {
        CHECK.sentence("m MARGIN GAP in mm");
        for (int margin : new int[] {0, 1, 10, 999}) {
            for (int gap : new int[] {0, 1, 10, 999}) {
                SignBoards x = Scene.board("m " + margin + " " + gap, 0, "a", "a");
                CHECK.due("width, " + margin + " and " + gap, x.size(0, 0, 1), 800 + 16 * (100 + gap + 2 * margin));
                CHECK.due("height, " + margin + " and " + gap, x.size(0, 1, 1), 16 * (200 + gap + 2 * margin));
            }
        }
    }

    private static void lettersOfNames() {
        CHECK.sentence("BAD ..: not 1 to 12 letters");
        for (int length = 0; length <= 100; length++) {
            SignBoards x = new SignBoards();
            boolean fits = length >= 1 && length <= 12;
            CHECK.due("a name of " + length, Check.name(x, "x".repeat(length)), fits ? 0 : BAD);
            CHECK.due("names behind it", x.count(0), fits ? 1 : 0);
            CHECK.due("its width", x.width(0, 50), fits ? 800 * length : BAD);
        }
        for (int sign = 32; sign <= 126; sign++) {
            CHECK.due("a name of sign " + sign, Check.name(new SignBoards(), "" + (char) sign), 0);
        }
    }

    private static void tenNames() {
        CHECK.sentence("A NAME (at most 10) .. BAD: .. there are 10.");
        SignBoards x = new SignBoards();
        for (int i = 0; i < 10; i++) {
            CHECK.due("name " + i, Check.name(x, "x".repeat(1 + i)), i);
            CHECK.due("names behind it", x.count(0), i + 1);
        }
        CHECK.due("an eleventh", Check.name(x, "y"), BAD);
        CHECK.due("an empty eleventh", x.name(), BAD);
        CHECK.due("ten names", x.count(0), 10);
        CHECK.due("no eleventh", x.width(10, 50), BAD);
        for (int i = 0; i < 10; i++) {
            CHECK.due("name " + i + " as it was", x.width(i, 50), 800 * (1 + i));
        }
    }

    private static void namesAreGone() {
        CHECK.sentence("What was collected becomes a name, and is gone .. BAD (it is gone then, too)");
        SignBoards x = new SignBoards();
        for (int i = 0; i < 9; i++) {
            Check.name(x, "x");
            CHECK.due("signs behind name " + i, x.count(5), 0);
        }
        CHECK.due("a name of 13", Check.name(x, "y".repeat(13)), BAD);
        CHECK.due("signs behind it", x.count(5), 0);
        CHECK.due("a name of none", x.name(), BAD);
        CHECK.due("a name that begins anew", Check.name(x, "zz"), 9);
        CHECK.due("its width", x.width(9, 50), 1600);
        CHECK.due("an eleventh", Check.name(x, "o n"), BAD);
        CHECK.due("signs behind it", x.count(5), 0);
        CHECK.due("rules behind it", x.rules(), -1);
    }
}
