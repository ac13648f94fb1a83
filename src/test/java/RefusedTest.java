import java.util.ArrayList;
import java.util.List;
import java.util.function.Supplier;

/** Calls that are refused, each on an object of its own, leave all as it was. */
public final class RefusedTest {
    /** Answers a boolean as 0 or 1. */
    private interface Call {
        int of(SignBoards x);
    }

    private record Refused(String told, Call call, int due) { }

    private static final int BAD = SignBoards.BAD;

    private static final Check CHECK = new Check();

    private final List<Refused> calls = new ArrayList<>();

    public static void main(String[] args) {
        RefusedTest some = new RefusedTest();
        some.wrongNumbers(4, 5, 3);
        some.wrongOfSome();
        some.compare("some", Scene::some);
        RefusedTest full = new RefusedTest();
        full.wrongNumbers(10, 24, 8);
        full.wrongOfFull();
        full.compare("full", Scene::full);
        RefusedTest none = new RefusedTest();
        none.wrongNumbers(0, 0, 0);
        none.compare("new", SignBoards::new);
        textsThatAreGone();
        CHECK.finish();
    }

    private void no(String told, Call call) {
        calls.add(new Refused(told, call, 0));
    }

    private void bad(String told, Call call) {
        calls.add(new Refused(told, call, BAD));
    }

    private static int told(boolean answer) {
        return answer ? 1 : 0;
    }

    /** What is refused on every object that has so many of each. */
    private void wrongNumbers(int names, int ways, int boards) {
        for (int u : Check.outside(32, 126)) {
            no("unit " + u, x -> told(x.unit(u)));
            no("glyph of " + u, x -> told(x.glyph(u, 1)));
            no("kern of " + u + " and A", x -> told(x.kern(u, 'A', 1)));
            no("kern of A and " + u, x -> told(x.kern('A', u, 1)));
        }
        for (int width : Check.outside(0, 64)) {
            no("width " + width, x -> told(x.glyph('A', width)));
        }
        for (int v : Check.outside(-16, 16)) {
            no("kern " + v, x -> told(x.kern('A', 'V', v)));
        }
        for (int node : Check.outside(0, 9)) {
            bad("way from " + node, x -> x.way(node, 2, 1));
            bad("way to " + node, x -> x.way(1, node, 1));
        }
        for (int length : Check.outside(1, 100000)) {
            bad("way of length " + length, x -> x.way(1, 3, length));
        }
        for (int node : Check.outside(-1, 9)) {
            no("goal " + node, x -> told(x.goal(0, node)));
        }
        for (int name : Check.outside(0, names - 1)) {
            no("goal of name " + name, x -> told(x.goal(name, 1)));
            no("no goal of name " + name, x -> told(x.goal(name, BAD)));
            no("on, name " + name, x -> told(x.on(0, name, 0)));
        }
        for (int way : Check.outside(0, ways - 1)) {
            bad("board on way " + way, x -> x.board(way));
        }
        for (int board : Check.outside(0, boards - 1)) {
            no("on, board " + board, x -> told(x.on(board, 3, 0)));
            no("wide of board " + board, x -> told(x.wide(board, 5)));
        }
        for (int arrow : Check.outside(0, 2)) {
            no("on, arrow " + arrow, x -> told(x.on(0, 3, arrow)));
        }
        for (int mm : Check.outside(0, 10000)) {
            no("wide " + mm, x -> told(x.wide(0, mm)));
        }
        wrongQuestions();
    }

    private void wrongQuestions() {
        for (int k : new int[] {Integer.MIN_VALUE, -1, 1000, Integer.MAX_VALUE}) {
            bad("height " + k, x -> x.height(k));
            bad("width at " + k, x -> x.width(0, k));
            bad("width of " + k, x -> x.width(k, 50));
            bad("row " + k, x -> x.row(0, k));
            bad("row of " + k, x -> x.row(k, 0));
            bad("distance " + k, x -> x.distance(0, k));
            bad("distance of " + k, x -> x.distance(k, 0));
            bad("size, axis " + k, x -> x.size(0, k, 50));
            bad("size at " + k, x -> x.size(0, 0, k));
            bad("size of " + k, x -> x.size(k, 1, 50));
            bad("drawn " + k, x -> x.drawn(0, 50, k, 0));
            bad("drawn of " + k, x -> x.drawn(k, 50, 0, 0));
            bad("drawn at " + k, x -> x.drawn(0, k, 0, 0));
            bad("drawn, what " + k, x -> x.drawn(0, 50, 0, k));
            bad("breaks " + k, x -> x.breaks(k, 0));
            bad("breaks, what " + k, x -> x.breaks(0, k));
            bad("count " + k, x -> x.count(k));
            no("shows, way " + k, x -> told(x.shows(k, 0)));
            no("shows, name " + k, x -> told(x.shows(0, k)));
        }
    }

    private void wrongOfSome() {
        for (int arrow = 0; arrow <= 2; arrow++) {
            int each = arrow;
            no("on, a name that it has, arrow " + each, x -> told(x.on(0, 1, each)));
        }
    }

    private void wrongOfFull() {
        no("a sign more", x -> told(x.unit('A')));
        no("a pair more", x -> told(x.kern('J', 'J', 1)));
        no("a pair more, with 0", x -> told(x.kern('J', 'J', 0)));
        bad("a way more", x -> x.way(0, 9, 1));
        bad("a board more", x -> x.board(0));
        no("a line more", x -> told(x.on(0, 9, 1)));
        no("a line more of the last board", x -> told(x.on(7, 0, 1)));
        no("a name that it has", x -> told(x.on(7, 9, 1)));
    }

    private void compare(String what, Supplier<SignBoards> maker) {
        String before = Look.of(maker);
        for (Refused each : calls) {
            CHECK.due(what + ": " + each.told, each.call.of(maker.get()), each.due);
            CHECK.due(what + " behind " + each.told, Look.of(behind(maker, each.call)), before);
        }
    }

    /** Refused rules and names are gone, but leave all else as it was. */
    private static void textsThatAreGone() {
        CHECK.sentence("rules stay as they were");
        int collected = Scene.some().count(5);
        leavesAllButSigns("wrong rules", Scene::some, x -> Check.rules(x, "; o f; x"), -1 - collected - 7);
        leavesAllButSigns("rules that end too early", Scene::some, x -> Check.rules(x, ";"), -1 - collected - 1);
        leavesAllButSigns("no rules", SignBoards::new, SignBoards::rules, -1);
        CHECK.sentence("BAD (it is gone then, too): not 1 to 12 letters; there are 10.");
        leavesAllButSigns("a name of 13", Scene::some, x -> Check.name(x, "x"), BAD);
        leavesAllButSigns("an eleventh name", Scene::full, SignBoards::name, BAD);
        leavesAllButSigns("an empty name", SignBoards::new, SignBoards::name, BAD);
    }

    private static void leavesAllButSigns(String what, Supplier<SignBoards> maker, Call call, int due) {
        SignBoards gone = maker.get();
        CHECK.due(what, call.of(gone), due);
        CHECK.due("signs behind " + what, gone.count(5), 0);
        CHECK.due("all behind " + what, Look.withoutSigns(behind(maker, call)), Look.withoutSigns(maker));
    }

    private static Supplier<SignBoards> behind(Supplier<SignBoards> maker, Call call) {
        return () -> {
            SignBoards x = maker.get();
            call.of(x);
            return x;
        };
    }
}
