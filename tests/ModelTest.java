import java.util.Random;
import java.util.Set;

/** All promises: runs of 512 calls, each answer compared with the one of the plain program in Model.java. */
public final class ModelTest {
    private static final int RUNS = 120;
    private static final int CALLS = 512;
    private static final String[] NAMES = {
        "feed", "moveTo", "setRegion", "eraseLine", "eraseScreen", "insertRows", "deleteRows", "insertCells",
        "deleteCells", "keep", "back", "resize", "cell", "row", "line", "sign", "cursor", "ifWidth", "widthFor",
        "told", "undo", "digest"};
    private static final Set<String> ONE_ARGUMENT = Set.of("feed", "eraseLine", "eraseScreen", "insertRows", "deleteRows",
        "insertCells", "deleteCells", "keep", "back", "ifWidth", "widthFor", "told", "undo", "digest");
    private static final int[] EDGES = {
        Integer.MIN_VALUE, Integer.MIN_VALUE + 1, -65536, -26, -25, -24, -2, -1, 0, 1, 2, 3, 4, 5, 7, 8, 9, 10, 11, 12, 13, 14, 19, 20,
        21, 22, 24, 25, 31, 32, 33, 40, 41, 64, 65, 90, 91, 126, 127, 256, 639, 640, 65536, Integer.MAX_VALUE - 1, Integer.MAX_VALUE};
    private static final int FEED = 0;
    /** How often each call comes, in the four kinds of runs: mixed, writing, resizing, moving rows and cells. */
    private static final int[][] WEIGHTS = {
        {40, 6, 3, 3, 2, 3, 3, 3, 3, 3, 3, 4, 2, 3, 3, 3, 4, 2, 2, 3, 4, 1},
        {90, 2, 1, 0, 0, 0, 0, 0, 0, 1, 1, 1, 0, 1, 1, 1, 1, 0, 0, 0, 1, 1},
        {40, 4, 1, 1, 0, 1, 1, 1, 1, 3, 2, 20, 0, 1, 1, 1, 2, 1, 1, 1, 3, 1},
        {50, 9, 4, 4, 1, 9, 9, 9, 9, 1, 1, 2, 0, 1, 1, 1, 1, 1, 1, 1, 3, 1}};

    private static final Check check = new Check("ModelTest");

    public static void main(String[] args) {
        for (int run = 0; run < RUNS; run++) {
            play(run);
        }
        for (int which = 0; which < NAMES.length; which++) {
            everyArgument(which);
        }
        check.end();
    }

    private static void play(int run) {
        Random random = new Random(run);
        int[] weights = WEIGHTS[run % WEIGHTS.length];
        int wide = random.nextInt(3) * 25;
        PouredScreen x = new PouredScreen();
        Model model = new Model();
        StringBuilder told = new StringBuilder("run " + run + ":");
        for (int call = 0; call < CALLS; call++) {
            int which = chosen(random, weights);
            int[] arguments = arguments(random, which, model, wide);
            told.append(' ').append(NAMES[which]).append('(').append(arguments[0]).append(',').append(arguments[1]).append(')');
            long got = answer(x, which, arguments);
            long want = answer(model, which, arguments);
            if (got != want || x.digest() != model.digest()) {
                check.due(told + " (or what it left)", got, want);
                check.due("run " + run + ": digest()", x.digest(), model.digest());
                return;
            }
        }
    }

    /** Each pair of arguments at an edge, or far from it, on a few states; no call may throw, whatever they are. */
    private static void everyArgument(int which) {
        for (int state = 0; state < 4; state++) {
            for (int first : EDGES) {
                for (int second : EDGES) {
                    int[] arguments = {first, second};
                    PouredScreen x = new PouredScreen();
                    Model model = new Model();
                    bring(x, model, state);
                    String call = NAMES[which] + "(" + first + ", " + second + ") on state " + state;
                    check.due(call, answer(x, which, arguments), answer(model, which, arguments));
                    check.due("digest() behind " + call, x.digest(), model.digest());
                    if (ONE_ARGUMENT.contains(NAMES[which])) {
                        break;
                    }
                }
            }
        }
    }

    /** State 0 is a new one, 1 has wraps, a region and kept cursors, 2 is pending out of the region, 3 has much history. */
    private static void bring(PouredScreen x, Model model, int state) {
        int[][] calls = {
            {0, 'a', 0}, {11, 5, 3}, {0, 'B', 0}, {0, 'C', 0}, {0, 'D', 0}, {9, 0, 0}, {0, 'e', 0}, {0, 'F', 0}, {1, 0, 3}, {9, 0, 0},
            {2, 0, 1}, {1, 2, 3}, {0, 'G', 0}, {11, 4, 2}, {0, 'h', 0}, {0, 10, 0}, {0, 10, 0}, {0, 'I', 0}, {9, 0, 0}, {1, 0, 2}};
        int[] counts = {0, 12, 13, calls.length};
        for (int k = 0; k < counts[state]; k++) {
            int[] arguments = {calls[k][1], calls[k][2]};
            check.due("call " + k + " to state " + state, answer(x, calls[k][0], arguments), answer(model, calls[k][0], arguments));
        }
    }

    private static int chosen(Random random, int[] weights) {
        int sum = 0;
        for (int weight : weights) {
            sum += weight;
        }
        int left = random.nextInt(sum);
        int which = 0;
        while (left >= weights[which]) {
            left -= weights[which];
            which++;
        }
        return which;
    }

    /** Arguments that are mostly right, a step too far now and then, and seldom far off. */
    private static int[] arguments(Random random, int which, Model model, int wide) {
        int width = model.told(0);
        int height = model.told(1);
        if (random.nextInt(150) == 0) {
            int[] far = {Integer.MIN_VALUE, Integer.MAX_VALUE, -1, -100, 1000, 0};
            return new int[] {far[random.nextInt(far.length)], far[random.nextInt(far.length)]};
        }
        switch (NAMES[which]) {
            case "feed": return new int[] {code(random, wide), 0};
            case "moveTo":
            case "cell": return new int[] {up(random, 0, height), up(random, 0, width)};
            case "setRegion": return new int[] {up(random, 0, height - 1), height - 1 - up(random, 0, height - 1)};
            case "eraseLine":
            case "eraseScreen": return new int[] {up(random, 0, 3), 0};
            case "insertRows":
            case "deleteRows": return new int[] {random.nextInt(3) == 0 ? up(random, 1, 8) : up(random, 1, 2), 0};
            case "insertCells":
            case "deleteCells": return new int[] {random.nextInt(3) == 0 ? up(random, 1, 20) : up(random, 1, 3), 0};
            case "resize": return new int[] {4 + up(random, 0, random.nextBoolean() ? 5 : 17), 2 + up(random, 0, 7)};
            case "row": return new int[] {random.nextBoolean() ? up(random, 0, height) : -up(random, 1, 25), up(random, 0, 4)};
            case "line": return new int[] {up(random, 0, 1 + model.told(7)), up(random, 0, 3)};
            case "sign": return new int[] {up(random, 0, 1 + model.told(7)), up(random, 0, 24)};
            case "cursor": return new int[] {up(random, 0, 4), up(random, 0, 4)};
            case "ifWidth": return new int[] {4 + up(random, 0, 17), 0};
            case "widthFor": return new int[] {up(random, 1, 40), 0};
            case "told": return new int[] {up(random, 0, 11), 0};
            default: return new int[] {0, 0};
        }
    }

    private static int up(Random random, int least, int count) {
        return random.nextInt(40) == 0 ? least + count - random.nextInt(2) * (count + 1) : least + random.nextInt(count);
    }

    private static int code(Random random, int wide) {
        if (random.nextInt(100) < wide) {
            return 'A' + random.nextInt(26);
        }
        int kind = random.nextInt(60);
        if (kind < 10) {
            int[] codes = {10, 10, 13, 8, 9, 32, 32, 32, 10, 13};
            return codes[kind];
        }
        return kind == 11 ? 28 + random.nextInt(102) : kind < 20 ? 32 : 'a' + random.nextInt(26);
    }

    private static long answer(PouredScreen x, int which, int[] a) {
        switch (which) {
            case FEED: return x.feed(a[0]);
            case 1: return x.moveTo(a[0], a[1]);
            case 2: return x.setRegion(a[0], a[1]);
            case 3: return x.eraseLine(a[0]);
            case 4: return x.eraseScreen(a[0]);
            case 5: return x.insertRows(a[0]);
            case 6: return x.deleteRows(a[0]);
            case 7: return x.insertCells(a[0]);
            case 8: return x.deleteCells(a[0]);
            case 9: return x.keep();
            case 10: return x.back();
            case 11: return x.resize(a[0], a[1]);
            case 12: return x.cell(a[0], a[1]);
            case 13: return x.row(a[0], a[1]);
            case 14: return x.line(a[0], a[1]);
            case 15: return x.sign(a[0], a[1]);
            case 16: return x.cursor(a[0], a[1]);
            case 17: return x.ifWidth(a[0]);
            case 18: return x.widthFor(a[0]);
            case 19: return x.told(a[0]);
            case 20: return x.undo();
            default: return x.digest();
        }
    }

    private static long answer(Model x, int which, int[] a) {
        switch (which) {
            case FEED: return x.feed(a[0]);
            case 1: return x.moveTo(a[0], a[1]);
            case 2: return x.setRegion(a[0], a[1]);
            case 3: return x.eraseLine(a[0]);
            case 4: return x.eraseScreen(a[0]);
            case 5: return x.insertRows(a[0]);
            case 6: return x.deleteRows(a[0]);
            case 7: return x.insertCells(a[0]);
            case 8: return x.deleteCells(a[0]);
            case 9: return x.keep();
            case 10: return x.back();
            case 11: return x.resize(a[0], a[1]);
            case 12: return x.cell(a[0], a[1]);
            case 13: return x.row(a[0], a[1]);
            case 14: return x.line(a[0], a[1]);
            case 15: return x.sign(a[0], a[1]);
            case 16: return x.cursor(a[0], a[1]);
            case 17: return x.ifWidth(a[0]);
            case 18: return x.widthFor(a[0]);
            case 19: return x.told(a[0]);
            case 20: return x.undo();
            default: return x.digest();
        }
    }
}
