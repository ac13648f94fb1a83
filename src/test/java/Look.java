import java.util.function.Supplier;

/** All that an object answers to questions, as one text, to be compared with another one's. */
final class Look {
    private static final int[] SPEEDS = {1, 40, 41, 80, 81, 999};

    private final StringBuilder text = new StringBuilder();

    private Look() {
    }

    /** Without the signs that are collected; each part asks a new object, as one may be asked only 512 times. */
    static String withoutSigns(Supplier<SignBoards> maker) {
        Look look = new Look();
        look.letters(maker.get());
        look.boards(maker.get());
        look.items(maker.get());
        look.shown(maker.get());
        look.breaks(maker.get());
        return look.text.toString();
    }

    static String of(Supplier<SignBoards> maker) {
        Look look = new Look();
        look.text.append(withoutSigns(maker));
        look.signs(maker.get());
        return look.text.toString();
    }

    private void tell(String what, int answer) {
        text.append(what).append(answer).append(' ');
    }

    private void letters(SignBoards x) {
        for (int what = 0; what < 5; what++) {
            tell("count=", x.count(what));
        }
        int names = x.count(0);
        for (int speed : SPEEDS) {
            tell("height=", x.height(speed));
            for (int name = 0; name < names; name++) {
                tell("width=", x.width(name, speed));
            }
        }
    }

    private void boards(SignBoards x) {
        int boards = x.count(2);
        for (int board = 0; board < boards; board++) {
            tell("wide=", x.size(board, 0, 41));
            tell("high=", x.size(board, 1, 41));
            for (int k = 0; k <= 5; k++) {
                tell("row=", x.row(board, k));
                tell("far=", x.distance(board, k));
            }
        }
    }

    private void items(SignBoards x) {
        int boards = x.count(2);
        for (int board = 0; board < boards; board++) {
            for (int k = 0; k <= 9; k++) {
                for (int what = 0; what < 3; what++) {
                    tell("drawn=", x.drawn(board, 41, k, what));
                }
            }
        }
    }

    private void shown(SignBoards x) {
        int names = x.count(0);
        int ways = x.count(1);
        for (int way = 0; way < ways; way++) {
            for (int name = 0; name < names; name++) {
                text.append(x.shows(way, name) ? '+' : '-');
            }
        }
        text.append(' ');
    }

    private void breaks(SignBoards x) {
        for (int k = 0; k <= 40; k++) {
            for (int what = 0; what < 3; what++) {
                tell("break=", x.breaks(k, what));
            }
        }
    }

    /** The signs are asked for by making them the rules. */
    private void signs(SignBoards x) {
        tell("signs=", x.count(5));
        tell("rules=", x.rules());
        boards(x);
    }
}
