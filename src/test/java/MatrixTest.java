/** Promises 2 to 9: the current matrix and the pile. */
public final class MatrixTest {
    private static final Checks CHECKS = new Checks();
    private static final int[] IDENTITY = {1, 0, 0, 0, 0, 1, 0, 0, 0, 0, 1, 0, 0, 0, 0, 1};
    private static final int[] COUNTING = {1, 2, 3, 4, 5, 6, 7, 8, 9, 10, 11, 12, 13, 14, 15, 16};

    public static void main(String[] args) {
        rowSetsOneRow();
        rowRefuses();
        moveMultipliesOnTheRight();
        moveRefuses();
        stretchMultipliesColumns();
        stretchRefuses();
        turnChangesColumns();
        turnRefuses();
        joinMultipliesOnTheLeft();
        joinRefuses();
        pushKeepsACopy();
        pushRefusesTheFifth();
        popTakesTheLatest();
        entryRefuses();
        CHECKS.end("MatrixTest");
    }

    private static ExactScene sceneWith(int... entries) {
        ExactScene scene = new ExactScene();
        set(scene, entries);
        return scene;
    }

    private static void set(ExactScene scene, int... m) {
        for (int row = 0; row < 4; row++) {
            scene.row(row, m[4 * row], m[4 * row + 1], m[4 * row + 2], m[4 * row + 3]);
        }
    }

    private static void dueMatrix(String what, ExactScene scene, int... want) {
        for (int n = 0; n < 16; n++) {
            int row = n / 4;
            int column = n % 4;
            CHECKS.due(what + ", entry(" + row + ", " + column + ")", want[n], () -> scene.entry(row, column));
        }
    }

    private static void rowSetsOneRow() {
        ExactScene scene = new ExactScene();
        dueMatrix("a new object", scene, IDENTITY);
        scene.row(2, 511, -511, 0, 7);
        dueMatrix("row(2, ..)", scene, 1, 0, 0, 0, 0, 1, 0, 0, 511, -511, 0, 7, 0, 0, 0, 1);
        scene.row(0, 2, 3, 4, 5);
        scene.row(3, -2, -3, -4, -5);
        dueMatrix("row(0 and 3, ..)", scene, 2, 3, 4, 5, 0, 1, 0, 0, 511, -511, 0, 7, -2, -3, -4, -5);
    }

    private static void rowRefuses() {
        ExactScene scene = sceneWith(COUNTING);
        for (int row : new int[] {-1, 4, Integer.MIN_VALUE, Integer.MAX_VALUE}) {
            CHECKS.dueThrow("row(" + row + ", ..)", IllegalArgumentException.class, () -> scene.row(row, 0, 0, 0, 0));
        }
        for (int x : new int[] {512, -512, 100000, Integer.MIN_VALUE, Integer.MAX_VALUE}) {
            CHECKS.dueThrow("row with a " + x, IllegalArgumentException.class, () -> scene.row(0, x, 0, 0, 0));
            CHECKS.dueThrow("row with b " + x, IllegalArgumentException.class, () -> scene.row(1, 0, x, 0, 0));
            CHECKS.dueThrow("row with c " + x, IllegalArgumentException.class, () -> scene.row(2, 0, 0, x, 0));
            CHECKS.dueThrow("row with d " + x, IllegalArgumentException.class, () -> scene.row(3, 0, 0, 0, x));
        }
        dueMatrix("refused rows", scene, COUNTING);
    }

    private static void moveMultipliesOnTheRight() {
        ExactScene scene = sceneWith(COUNTING);
        scene.move(1, -2, 3);
        dueMatrix("move(1, -2, 3)", scene, 1, 2, 3, 10, 5, 6, 7, 22, 9, 10, 11, 34, 13, 14, 15, 46);
        ExactScene fresh = new ExactScene();
        fresh.move(511, -511, 0);
        fresh.move(0, 0, 511);
        dueMatrix("move to the limits", fresh, 1, 0, 0, 511, 0, 1, 0, -511, 0, 0, 1, 511, 0, 0, 0, 1);
        ExactScene blind = new ExactScene();
        blind.row(0, 0, 0, 0, 3);
        CHECKS.duePass("a move that a column of zeros does not feel", () -> blind.move(Integer.MIN_VALUE, 1, 2));
        dueMatrix("the move not felt", blind, 0, 0, 0, 3, 0, 1, 0, 1, 0, 0, 1, 2, 0, 0, 0, 1);
    }

    private static void moveRefuses() {
        ExactScene scene = sceneWith(COUNTING);
        CHECKS.dueThrow("move to 512 in the last row", ArithmeticException.class, () -> scene.move(31, 0, 7));
        CHECKS.dueThrow("move(MIN, 0, 0)", ArithmeticException.class, () -> scene.move(Integer.MIN_VALUE, 0, 0));
        CHECKS.dueThrow("move(MAX, MAX, MAX)", ArithmeticException.class,
                () -> scene.move(Integer.MAX_VALUE, Integer.MAX_VALUE, Integer.MAX_VALUE));
        dueMatrix("refused moves", scene, COUNTING);
        ExactScene fresh = new ExactScene();
        CHECKS.dueThrow("move(512, 0, 0)", ArithmeticException.class, () -> fresh.move(512, 0, 0));
        CHECKS.dueThrow("move(0, -512, 0)", ArithmeticException.class, () -> fresh.move(0, -512, 0));
        CHECKS.dueThrow("move(1, 2, 512)", ArithmeticException.class, () -> fresh.move(1, 2, 512));
        dueMatrix("moves refused on a new object", fresh, IDENTITY);
        ExactScene even = new ExactScene();
        even.row(1, 2, 0, 0, 0);
        even.row(0, 0, 0, 0, 0);
        CHECKS.dueThrow("a move whose product is 2^32", ArithmeticException.class,
                () -> even.move(Integer.MIN_VALUE, 0, 0));
        dueMatrix("the move of 2^32", even, 0, 0, 0, 0, 2, 0, 0, 0, 0, 0, 1, 0, 0, 0, 0, 1);
    }

    private static void stretchMultipliesColumns() {
        ExactScene scene = sceneWith(COUNTING);
        scene.stretch(2, -3, 0);
        dueMatrix("stretch(2, -3, 0)", scene, 2, -6, 0, 4, 10, -18, 0, 8, 18, -30, 0, 12, 26, -42, 0, 16);
        ExactScene fresh = new ExactScene();
        fresh.stretch(511, -511, 1);
        dueMatrix("stretch to the limits", fresh, 511, 0, 0, 0, 0, -511, 0, 0, 0, 0, 1, 0, 0, 0, 0, 1);
        fresh.stretch(0, 0, 0);
        CHECKS.duePass("a stretch of zeros", () -> fresh.stretch(Integer.MAX_VALUE, Integer.MIN_VALUE, 512));
        dueMatrix("zeros stretched", fresh, 0, 0, 0, 0, 0, 0, 0, 0, 0, 0, 0, 0, 0, 0, 0, 1);
    }

    private static void stretchRefuses() {
        ExactScene fresh = new ExactScene();
        CHECKS.dueThrow("stretch(512, 1, 1)", ArithmeticException.class, () -> fresh.stretch(512, 1, 1));
        CHECKS.dueThrow("stretch(1, -512, 1)", ArithmeticException.class, () -> fresh.stretch(1, -512, 1));
        CHECKS.dueThrow("stretch(2, 2, MAX)", ArithmeticException.class, () -> fresh.stretch(2, 2, Integer.MAX_VALUE));
        dueMatrix("refused stretches", fresh, IDENTITY);
        fresh.row(3, 4, 0, 0, 0);
        CHECKS.dueThrow("a stretch whose product is 2^32", ArithmeticException.class,
                () -> fresh.stretch(1 << 30, 1, 1));
        CHECKS.dueThrow("a stretch of the last row", ArithmeticException.class, () -> fresh.stretch(128, 1, 1));
    }

    private static void turnChangesColumns() {
        ExactScene scene = sceneWith(COUNTING);
        scene.turn(0);
        dueMatrix("turn(0)", scene, 1, 3, -2, 4, 5, 7, -6, 8, 9, 11, -10, 12, 13, 15, -14, 16);
        set(scene, COUNTING);
        scene.turn(1);
        dueMatrix("turn(1)", scene, -3, 2, 1, 4, -7, 6, 5, 8, -11, 10, 9, 12, -15, 14, 13, 16);
        set(scene, COUNTING);
        scene.turn(2);
        dueMatrix("turn(2)", scene, 2, -1, 3, 4, 6, -5, 7, 8, 10, -9, 11, 12, 14, -13, 15, 16);
        for (int n = 0; n < 3; n++) {
            scene.turn(2);
        }
        dueMatrix("four quarter turns", scene, COUNTING);
    }

    private static void turnRefuses() {
        ExactScene scene = sceneWith(COUNTING);
        for (int axis : new int[] {-1, 3, -2, -3, Integer.MIN_VALUE, Integer.MAX_VALUE}) {
            CHECKS.dueThrow("turn(" + axis + ")", IllegalArgumentException.class, () -> scene.turn(axis));
        }
        dueMatrix("refused turns", scene, COUNTING);
    }

    private static void joinMultipliesOnTheLeft() {
        ExactScene scene = sceneWith(COUNTING);
        scene.push();
        set(scene, 0, 1, 0, 0, 0, 0, 2, 0, 3, 0, 0, 0, 0, 0, 0, -1);
        scene.join();
        dueMatrix("join", scene, 9, 1, 4, -4, 21, 5, 12, -8, 33, 9, 20, -12, 45, 13, 28, -16);
        CHECKS.dueThrow("a second join", IllegalStateException.class, scene::join);
        ExactScene two = new ExactScene();
        two.stretch(2, 1, 1);
        two.push();
        two.stretch(5, 3, 1);
        two.push();
        two.join();
        dueMatrix("join with the latest", two, 100, 0, 0, 0, 0, 9, 0, 0, 0, 0, 1, 0, 0, 0, 0, 1);
        two.join();
        dueMatrix("join with the one before", two, 200, 0, 0, 0, 0, 9, 0, 0, 0, 0, 1, 0, 0, 0, 0, 1);
    }

    private static void joinRefuses() {
        ExactScene scene = new ExactScene();
        CHECKS.dueThrow("join with no pile", IllegalStateException.class, scene::join);
        scene.stretch(1, 1, 23);
        scene.push();
        CHECKS.dueThrow("join to 529", ArithmeticException.class, scene::join);
        dueMatrix("a refused join", scene, 1, 0, 0, 0, 0, 1, 0, 0, 0, 0, 23, 0, 0, 0, 0, 1);
        scene.row(2, 0, 0, 2, 0);
        scene.join();
        dueMatrix("a join after a refused one", scene, 1, 0, 0, 0, 0, 1, 0, 0, 0, 0, 46, 0, 0, 0, 0, 1);
        ExactScene limit = new ExactScene();
        limit.row(0, 73, 0, 0, 0);
        limit.push();
        limit.row(0, -7, 0, 0, 0);
        CHECKS.duePass("join to -511", limit::join);
        CHECKS.due("entry(0, 0) then", -511, () -> limit.entry(0, 0));
    }

    private static void pushKeepsACopy() {
        ExactScene scene = sceneWith(COUNTING);
        scene.push();
        dueMatrix("push leaves the current one", scene, COUNTING);
        scene.turn(0);
        scene.row(3, 0, 0, 0, 0);
        scene.pop();
        dueMatrix("what was pushed", scene, COUNTING);
    }

    private static void pushRefusesTheFifth() {
        ExactScene scene = new ExactScene();
        for (int n = 0; n < 4; n++) {
            CHECKS.duePass("push " + n, scene::push);
        }
        scene.row(0, 9, 9, 9, 9);
        CHECKS.dueThrow("the fifth push", IllegalStateException.class, scene::push);
        CHECKS.due("the current one then", 9, () -> scene.entry(0, 0));
        scene.pop();
        dueMatrix("the latest after a refused push", scene, IDENTITY);
        CHECKS.duePass("push after a pop", scene::push);
    }

    private static void popTakesTheLatest() {
        ExactScene scene = new ExactScene();
        CHECKS.dueThrow("pop with no pile", IllegalStateException.class, scene::pop);
        for (int n = 0; n < 4; n++) {
            scene.row(1, n, 10 + n, 20 + n, 30 + n);
            scene.push();
        }
        scene.row(1, 0, 0, 0, 0);
        for (int n = 3; n >= 0; n--) {
            scene.pop();
            dueMatrix("pop " + n, scene, 1, 0, 0, 0, n, 10 + n, 20 + n, 30 + n, 0, 0, 1, 0, 0, 0, 0, 1);
        }
        CHECKS.dueThrow("pop of one too many", IllegalStateException.class, scene::pop);
        CHECKS.due("the current one then", 30, () -> scene.entry(1, 3));
    }

    private static void entryRefuses() {
        ExactScene scene = new ExactScene();
        int[] none = {-1, 4, Integer.MIN_VALUE, Integer.MAX_VALUE};
        for (int n : none) {
            CHECKS.dueThrow("entry(" + n + ", 0)", IndexOutOfBoundsException.class, () -> scene.entry(n, 0));
            CHECKS.dueThrow("entry(0, " + n + ")", IndexOutOfBoundsException.class, () -> scene.entry(0, n));
        }
    }
}
