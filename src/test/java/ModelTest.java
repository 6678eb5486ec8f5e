/** Many runs of calls, always the same ones, each answer held against the model's. */
public final class ModelTest {
    private static final Checks CHECKS = new Checks();
    private static final int RUNS = 2000;
    private static final int MOST_CALLS = 512;
    private static final int[] ENDS = {Integer.MIN_VALUE, Integer.MAX_VALUE, -512, -511, -128, -127, -32, -31, -1, 0, 0,
        1, 1, 2, 2, 3, 4, 5, 7, 8, 11, 12, 13, 15, 16, 20, 31, 32, 127, 128, 256, 511, 512};

    private long seed;
    private int calls;
    private final int kind;
    private final ExactScene scene = new ExactScene();
    private final Model model = new Model();

    private ModelTest(int run) {
        seed = run * 7919L + 1;
        kind = run % 4;
    }

    public static void main(String[] args) {
        for (int run = 0; run < RUNS; run++) {
            new ModelTest(run).play();
            new ModelTest(run).playWild();
        }
        CHECKS.end("ModelTest");
    }

    private void play() {
        while (calls < MOST_CALLS) {
            changeTexels();
            changeMatrix();
            tellVertices(pick(2, 24));
            lookAtPicture(60);
            if (pick(0, 2) == 0) {
                ask("clear()", model::clear, scene::clear);
                lookAtPixels(8);
            }
        }
    }

    /** Any call at any time, with numbers from both sides of the document's ends. */
    private void playWild() {
        while (calls < MOST_CALLS) {
            switch (pick(0, 5)) {
                case 0 -> changeWildly(end(), end(), end());
                case 1 -> tellWildly(end(), end(), end());
                case 2 -> askWildly(end(), end(), end());
                case 3 -> tellVertices(1);
                case 4 -> lookAtPixels(1);
                default -> changeMatrix();
            }
        }
    }

    private void changeWildly(int a, int b, int c) {
        int d = end();
        switch (pick(0, 6)) {
            case 0 -> changeRow(pick(-1, 4), a, b, c, d);
            case 1 -> make("move", () -> model.move(a, b, c), () -> scene.move(a, b, c));
            case 2 -> make("stretch", () -> model.stretch(a, b, c), () -> scene.stretch(a, b, c));
            case 3 -> make("turn", () -> model.turn(a), () -> scene.turn(a));
            case 4 -> make("push", model::push, scene::push);
            case 5 -> make("join", model::join, scene::join);
            default -> make("pop", model::pop, scene::pop);
        }
    }

    private void tellWildly(int a, int b, int c) {
        int d = end();
        int e = end();
        switch (pick(0, 4)) {
            case 0 -> ask("vertex", () -> model.vertex(a, b, c, d, e), () -> scene.vertex(a, b, c, d, e));
            case 1 -> ask("use", () -> model.use(a, b, c), () -> scene.use(a, b, c));
            case 2 -> ask("texel", () -> model.texel(a, b, c, d), () -> scene.texel(a, b, c, d));
            case 3 -> ask("draw", () -> model.draw(a), () -> scene.draw(a));
            default -> {
                if (pick(0, 9) == 0) {
                    ask("clear()", model::clear, scene::clear);
                }
            }
        }
    }

    private void askWildly(int a, int b, int c) {
        int d = end();
        switch (pick(0, 5)) {
            case 0 -> ask("entry", () -> model.entry(a, b), () -> scene.entry(a, b));
            case 1 -> ask("colour", () -> model.colour(a, b), () -> scene.colour(a, b));
            case 2 -> ask("owner", () -> model.owner(a, b), () -> scene.owner(a, b));
            case 3 -> ask("depth", () -> model.depth(a, b), () -> scene.depth(a, b));
            case 4 -> ask("compare", () -> model.compare(a, b, c, d), () -> scene.compare(a, b, c, d));
            default -> ask("triangle", () -> model.triangle(a, b), () -> scene.triangle(a, b));
        }
    }

    private int end() {
        return ENDS[pick(0, ENDS.length - 1)];
    }

    /** What the document promises of an object ends with its 512th call. */
    private void ask(String what, Checks.Call ofModel, Checks.Call ofScene) {
        if (calls < MOST_CALLS) {
            calls++;
            CHECKS.due(what, Checks.outcome(ofModel), ofScene);
        }
    }

    private void make(String what, Checks.Deed ofModel, Checks.Deed ofScene) {
        ask(what, () -> done(ofModel), () -> done(ofScene));
    }

    private static Object done(Checks.Deed deed) {
        deed.run();
        return "nothing";
    }

    private void changeTexels() {
        for (int n = 0; n < 40; n++) {
            int texture = pick(0, 30) == 0 ? 2 : pick(0, 1);
            int s = pick(0, 7);
            int t = pick(0, 7);
            int x = pick(-600, 600);
            ask("texel", () -> model.texel(texture, s, t, x), () -> scene.texel(texture, s, t, x));
        }
    }

    private void tellVertices(int count) {
        for (int n = 0; n < count; n++) {
            tellVertex();
            if (pick(0, 5) == 0) {
                changeMatrix();
            }
            if (pick(0, 4) == 0) {
                changeUse();
            }
        }
    }

    private void changeUse() {
        int texture = pick(0, 1);
        int mode = pick(0, 1);
        int sides = pick(0, 12) == 0 ? 3 : pick(0, 2);
        ask("use", () -> model.use(texture, mode, sides), () -> scene.use(texture, mode, sides));
    }

    private void tellVertex() {
        if (kind == 3) {
            changeRows();
        }
        int most = kind == 0 ? 3 : 31;
        boolean farthest = kind == 3 && pick(0, 3) != 0;
        int x = farthest ? 31 : pick(-most, most);
        int y = farthest ? 31 : pick(-most, most);
        int z = farthest || (kind == 2 && pick(0, 1) == 0) ? 31 : pick(-most, most);
        int u = pick(0, 40) == 0 ? 128 : pick(-127, 127);
        int v = pick(-20, 20);
        ask("vertex", () -> model.vertex(x, y, z, u, v), () -> scene.vertex(x, y, z, u, v));
    }

    private void changeMatrix() {
        switch (pick(0, 8)) {
            case 0 -> make("push", model::push, scene::push);
            case 1 -> make("pop", model::pop, scene::pop);
            case 2 -> make("join", model::join, scene::join);
            case 3 -> {
                int axis = pick(-1, 3);
                make("turn", () -> model.turn(axis), () -> scene.turn(axis));
            }
            case 4 -> {
                int a = pick(-4, 4);
                int b = pick(-4, 4);
                int c = pick(-4, 4);
                make("move", () -> model.move(a, b, c), () -> scene.move(a, b, c));
            }
            case 5 -> {
                int a = pick(-3, 3);
                int b = pick(1, 3);
                int c = pick(1, 3);
                make("stretch", () -> model.stretch(a, b, c), () -> scene.stretch(a, b, c));
            }
            default -> changeRows();
        }
        for (int n = 0; n < 3; n++) {
            int row = pick(0, 3);
            int column = pick(0, 3);
            ask("entry", () -> model.entry(row, column), () -> scene.entry(row, column));
        }
    }

    /**
     * Kind 0 makes edges run through centres, kind 1 is an ordinary view, kind 2 has great entries,
     * and kind 3 makes X, Y, Z, W as great as they can be, or nearly so.
     */
    private void changeRows() {
        if (kind == 0) {
            changeRow(0, pick(1, 5), 0, 0, pick(-2, 2));
            changeRow(1, 0, 4 * pick(1, 2), 0, 4 * pick(-1, 1));
            changeRow(3, 0, 0, 0, pick(0, 3) == 0 ? 8 : 16);
        } else if (kind == 1) {
            changeRow(0, pick(-3, 3), pick(-3, 3), 1, 0);
            changeRow(1, pick(-3, 3), pick(-3, 3), 1, 0);
            changeRow(2, pick(-3, 3), pick(-3, 3), pick(-9, 9), 0);
            changeRow(3, pick(-1, 1), pick(-1, 1), pick(-1, 1), pick(10, 60));
        } else if (kind == 2) {
            for (int row = 0; row < 4; row++) {
                changeRow(row, great(), great(), great(), great());
            }
        } else {
            for (int row = 0; row < 4; row++) {
                int greatest = pick(0, 1) * 1022 - 511;
                changeRow(row, greatest, greatest, greatest, pick(0, 2) == 0 ? great() : greatest);
            }
        }
    }

    private int great() {
        return pick(0, 1) == 0 ? pick(-511, 511) : pick(0, 1) * 1022 - 511;
    }

    private void changeRow(int row, int a, int b, int c, int d) {
        make("row", () -> model.row(row, a, b, c, d), () -> scene.row(row, a, b, c, d));
    }

    private void lookAtPicture(int pixels) {
        int background = pick(-1000, 1000);
        ask("draw", () -> model.draw(background), () -> scene.draw(background));
        for (int n = 0; n < 6; n++) {
            int number = pick(0, 8);
            int which = pick(0, 12);
            ask("triangle", () -> model.triangle(number, which), () -> scene.triangle(number, which));
            ask("D", () -> model.triangle(number, 0), () -> scene.triangle(number, 0));
        }
        lookAtPixels(pixels);
    }

    private void lookAtPixels(int times) {
        for (int n = 0; n < times; n++) {
            int i = pick(0, 15);
            int j = pick(0, 11);
            int k = pick(0, 15);
            int m = pick(0, 11);
            ask("owner", () -> model.owner(i, j), () -> scene.owner(i, j));
            ask("colour", () -> model.colour(i, j), () -> scene.colour(i, j));
            ask("depth", () -> model.depth(k, m), () -> scene.depth(k, m));
            ask("compare", () -> model.compare(i, j, k, m), () -> scene.compare(i, j, k, m));
        }
    }

    private int pick(int least, int most) {
        seed = seed * 6364136223846793005L + 1442695040888963407L;
        return least + (int) Math.floorMod(seed >>> 33, (long) (most - least + 1));
    }
}
