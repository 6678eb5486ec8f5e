/** Many runs of calls, always the same ones, each answer held against the model's. */
public final class ModelTest {
    private static final Checks CHECKS = new Checks();
    private static final int RUNS = 900;

    private long seed;
    private final int kind;
    private final ExactScene scene = new ExactScene();
    private final Model model = new Model();

    private ModelTest(int run) {
        seed = run * 7919L + 1;
        kind = run % 4;
    }

    public static void main(String[] args) {
        for (int run = 0; run < RUNS; run++) {
            new ModelTest(run).play();
        }
        CHECKS.end("ModelTest");
    }

    private void play() {
        fillTextures();
        for (int round = 0; round < 3; round++) {
            changeMatrix();
            int vertices = pick(2, 24);
            for (int n = 0; n < vertices; n++) {
                tellVertex();
                if (pick(0, 5) == 0) {
                    changeMatrix();
                }
                if (pick(0, 4) == 0) {
                    changeUse();
                }
            }
            look();
            if (pick(0, 2) == 0) {
                CHECKS.due("clear()", model.clear(), scene::clear);
                lookAtPixels(8);
            }
        }
    }

    private void fillTextures() {
        for (int n = 0; n < 128; n++) {
            int k = n;
            int x = pick(-600, 600);
            CHECKS.due("texel", model.texel(k / 64, k % 8, k / 8 % 8, x), () -> scene.texel(k / 64, k % 8, k / 8 % 8, x));
        }
    }

    private void changeUse() {
        int texture = pick(0, 1);
        int mode = pick(0, 1);
        int sides = pick(0, 12) == 0 ? 3 : pick(0, 2);
        CHECKS.due("use", model.use(texture, mode, sides), () -> scene.use(texture, mode, sides));
    }

    private void tellVertex() {
        if (kind == 3) {
            changeRows();
        }
        int most = kind == 0 ? 3 : 31;
        boolean farthest = kind == 3 && pick(0, 3) != 0;
        int x = farthest ? 31 : pick(-most, most);
        int y = farthest ? 31 : pick(-most, most);
        int z = farthest || (kind == 2 && pick(0, 1) == 0) ? 31 : pick(-most, most);
        int u = pick(0, 40) == 0 ? 128 : pick(-127, 127);
        int v = pick(-20, 20);
        CHECKS.due("vertex", Checks.outcome(() -> model.vertex(x, y, z, u, v)), () -> scene.vertex(x, y, z, u, v));
    }

    private void changeMatrix() {
        switch (pick(0, 8)) {
            case 0 -> both("push", model::push, scene::push);
            case 1 -> both("pop", model::pop, scene::pop);
            case 2 -> both("join", model::join, scene::join);
            case 3 -> {
                int axis = pick(-1, 3);
                both("turn", () -> model.turn(axis), () -> scene.turn(axis));
            }
            case 4 -> {
                int a = pick(-4, 4);
                int b = pick(-4, 4);
                int c = pick(-4, 4);
                both("move", () -> model.move(a, b, c), () -> scene.move(a, b, c));
            }
            case 5 -> {
                int a = pick(-3, 3);
                int b = pick(1, 3);
                int c = pick(1, 3);
                both("stretch", () -> model.stretch(a, b, c), () -> scene.stretch(a, b, c));
            }
            default -> changeRows();
        }
        for (int n = 0; n < 16; n++) {
            int k = n;
            CHECKS.due("entry", model.entry(k / 4, k % 4), () -> scene.entry(k / 4, k % 4));
        }
    }

    /**
     * Kind 0 makes edges run through centres, kind 1 is an ordinary view, kind 2 has great entries,
     * and kind 3 makes X, Y, Z, W as great as they can be, or nearly so.
     */
    private void changeRows() {
        if (kind == 0) {
            changeRow(0, pick(1, 5), 0, 0, pick(-2, 2));
            changeRow(1, 0, 4 * pick(1, 2), 0, 4 * pick(-1, 1));
            changeRow(3, 0, 0, 0, pick(0, 3) == 0 ? 8 : 16);
        } else if (kind == 1) {
            changeRow(0, pick(-3, 3), pick(-3, 3), 1, 0);
            changeRow(1, pick(-3, 3), pick(-3, 3), 1, 0);
            changeRow(2, pick(-3, 3), pick(-3, 3), pick(-9, 9), 0);
            changeRow(3, pick(-1, 1), pick(-1, 1), pick(-1, 1), pick(10, 60));
        } else if (kind == 2) {
            for (int row = 0; row < 4; row++) {
                changeRow(row, great(), great(), great(), great());
            }
        } else {
            for (int row = 0; row < 4; row++) {
                int greatest = pick(0, 1) * 1022 - 511;
                changeRow(row, greatest, greatest, greatest, pick(0, 2) == 0 ? great() : greatest);
            }
        }
    }

    private int great() {
        return pick(0, 1) == 0 ? pick(-511, 511) : pick(0, 1) * 1022 - 511;
    }

    private void changeRow(int row, int a, int b, int c, int d) {
        both("row", () -> model.row(row, a, b, c, d), () -> scene.row(row, a, b, c, d));
    }

    private void look() {
        int background = pick(-1000, 1000);
        CHECKS.due("draw", model.draw(background), () -> scene.draw(background));
        for (int k = 0; k < 20; k++) {
            int number = k;
            int which = pick(0, 12);
            CHECKS.due("triangle", Checks.outcome(() -> model.triangle(number, which)),
                    () -> scene.triangle(number, which));
            CHECKS.due("D", Checks.outcome(() -> model.triangle(number, 0)), () -> scene.triangle(number, 0));
        }
        for (int n = 0; n < 192; n++) {
            int i = n % 16;
            int j = n / 16;
            CHECKS.due("owner", model.owner(i, j), () -> scene.owner(i, j));
            CHECKS.due("colour", model.colour(i, j), () -> scene.colour(i, j));
            CHECKS.due("depth", Checks.outcome(() -> model.depth(i, j)), () -> scene.depth(i, j));
        }
        lookAtPixels(100);
    }

    private void lookAtPixels(int times) {
        for (int n = 0; n < times; n++) {
            int i = pick(0, 15);
            int j = pick(0, 11);
            int k = pick(0, 15);
            int m = pick(0, 11);
            CHECKS.due("compare", Checks.outcome(() -> model.compare(i, j, k, m)), () -> scene.compare(i, j, k, m));
            CHECKS.due("owner", model.owner(i, j), () -> scene.owner(i, j));
        }
    }

    private static void both(String what, Checks.Deed ofModel, Checks.Deed ofScene) {
        CHECKS.due(what, Checks.outcome(() -> done(ofModel)), () -> done(ofScene));
    }

    private static Object done(Checks.Deed deed) {
        deed.run();
        return "nothing";
    }

    private int pick(int least, int most) {
        seed = seed * 6364136223846793005L + 1442695040888963407L;
        return least + (int) Math.floorMod(seed >>> 33, (long) (most - least + 1));
    }
}
