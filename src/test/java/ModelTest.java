import java.util.Arrays;
import java.util.Random;

/** Long runs of mixed calls, the same ones each time, answered by the class as by the model. */
public final class ModelTest {
    private static final int RUNS = 1000;
    private static final int CALLS = 512;
    private static final int MOST_WRONG = 20;
    private static final String[] METHODS = {
        "unit", "rules", "name", "glyph", "kern", "height", "width", "way", "goal", "board", "on", "wide", "row",
        "distance", "size", "drawn", "shows", "breaks", "count",
    };
    private static final String[] PIECES = {
        "h 5 5", "h 1 1,2 2", "h 9 3 , 60 2,61 1", "h 1 1,2 2,3 3,4 4,5 5", ",6 6", "m 0 0", "m 3 2", "m 1 0", "o n",
        "o f", "o a", "on", "of", "oa", "o t", ";", ";", ";", " ", ",", "x", "0", "05", "1000", "h", "m", "o", "7", "n",
    };
    private static final String SIGNS = "hmonfat;, 0123456789x";
    private static final String LETTERS = "AVo ";

    private static final Check CHECK = new Check();

    private final Random random;
    private final SignBoards real = new SignBoards();
    private final Model model = new Model();
    private final StringBuilder log = new StringBuilder();
    private int calls;

    private ModelTest(int seed) {
        random = new Random(seed);
    }

    public static void main(String[] args) {
        for (int seed = 0; seed < RUNS && CHECK.wrong() < MOST_WRONG; seed++) {
            new ModelTest(seed).run(seed);
        }
        CHECK.finish();
    }

    private void run(int seed) {
        int before = CHECK.wrong();
        boolean crowded = seed % 2 == 0;
        while (calls < CALLS && CHECK.wrong() == before) {
            int kind = random.nextInt(crowded ? 12 : 30);
            if (kind == 0) {
                collect(LETTERS, 1 + random.nextInt(random.nextInt(8) == 0 ? 14 : 5));
                call(2);
            } else if (kind == 1) {
                tellRules();
            } else if (kind < 6) {
                call(7 + random.nextInt(4));
            } else if (kind < 8) {
                call(3 + random.nextInt(2));
            } else {
                call(random.nextInt(40) == 0 ? random.nextInt(METHODS.length) : 5 + random.nextInt(14));
            }
        }
        if (CHECK.wrong() != before) {
            System.out.println("run " + seed + ":" + log);
        }
    }

    private void collect(String signs, int length) {
        for (int i = 0; i < length; i++) {
            call(0, signs.charAt(random.nextInt(signs.length())));
        }
    }

    private void tellRules() {
        String text = random.nextInt(3) == 0 ? "h 20 3;m 2 1;o " + "nfat".charAt(random.nextInt(4)) : "";
        for (int pieces = text.isEmpty() ? 1 + random.nextInt(6) : 0; pieces > 0; pieces--) {
            text += PIECES[random.nextInt(PIECES.length)];
        }
        for (int i = 0; i < text.length(); i++) {
            call(0, text.charAt(i));
        }
        if (random.nextInt(6) == 0) {
            collect(SIGNS, random.nextInt(4));
        }
        call(1);
    }

    private void call(int method) {
        int[] ranges = ranges(METHODS[method]);
        int[] args = new int[ranges.length / 2];
        for (int i = 0; i < args.length; i++) {
            args[i] = argument(ranges[2 * i], ranges[2 * i + 1]);
        }
        call(method, args);
    }

    private void call(int method, int... args) {
        if (calls >= CALLS) {
            return;
        }
        String told = METHODS[method] + Arrays.toString(args);
        log.append(' ').append(told);
        calls++;
        CHECK.due(told, answer(real, METHODS[method], args), answer(model, METHODS[method], args));
    }

    private int argument(int least, int most) {
        switch (random.nextInt(60)) {
            case 0:
                return least - 1;
            case 1:
                return most + 1;
            case 2:
                return new int[] {Integer.MIN_VALUE, Integer.MAX_VALUE, -1, 0, 1}[random.nextInt(5)];
            default:
                return least + random.nextInt(most - least + 1);
        }
    }

    /** The least and the most of each argument, narrower than the document's where that meets more. */
    private int[] ranges(String method) {
        int ways = Math.max(model.count(1) - 1, 0);
        int boards = Math.max(model.count(2) - 1, 0);
        int names = Math.max(model.count(0) - 1, 0);
        int speed = random.nextInt(4) == 0 ? 999 : 10;
        int letter = LETTERS.charAt(random.nextInt(LETTERS.length()));
        int second = LETTERS.charAt(random.nextInt(LETTERS.length()));
        switch (method) {
            case "unit":
                return new int[] {32, 126};
            case "glyph":
                return new int[] {letter, letter, 0, random.nextInt(3) == 0 ? 64 : 3};
            case "kern":
                return new int[] {letter, random.nextInt(3) == 0 ? 126 : letter, second, second, -16, 16};
            case "height":
                return new int[] {1, speed};
            case "width":
                return new int[] {0, names, 1, speed};
            case "way":
                int nodes = random.nextInt(3) == 0 ? 9 : 4;
                return new int[] {0, nodes, 0, nodes, 1, random.nextInt(3) == 0 ? 100000 : 4};
            case "goal":
                return new int[] {0, names, -1, random.nextInt(3) == 0 ? 9 : 4};
            case "board":
                return new int[] {0, ways};
            case "on":
                return new int[] {0, boards, 0, names, 0, 2};
            case "wide":
                return new int[] {0, boards, 0, random.nextInt(3) == 0 ? 10000 : 30};
            case "row":
            case "distance":
                return new int[] {0, boards, 0, 4};
            case "size":
                return new int[] {0, boards, 0, 1, 1, speed};
            case "drawn":
                return new int[] {0, boards, 1, speed, 0, 20, 0, 2};
            case "shows":
                return new int[] {0, ways, 0, names};
            case "breaks":
                return new int[] {0, Math.max(model.count(4), 1), 0, 2};
            case "count":
                return new int[] {0, 5};
            default:
                return new int[0];
        }
    }

    private static long answer(Object object, String method, int[] args) {
        Class<?>[] types = new Class<?>[args.length];
        Arrays.fill(types, int.class);
        Object[] values = Arrays.stream(args).boxed().toArray();
        try {
            Object answer = object.getClass().getDeclaredMethod(method, types).invoke(object, values);
            return answer instanceof Boolean yes ? (yes ? 1 : 0) : (Integer) answer;
        } catch (ReflectiveOperationException e) {
            throw new IllegalStateException(method + Arrays.toString(args), e);
        }
    }
}
