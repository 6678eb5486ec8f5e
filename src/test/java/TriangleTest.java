/** Promises 10 to 13 and 19: vertices, what is in use, texels, clear, and the numbers of a triangle. */
public final class TriangleTest {
    private static final Checks CHECKS = new Checks();
    private static final int[] NO_NUMBER = {-1, 13, Integer.MIN_VALUE, Integer.MAX_VALUE};

    public static void main(String[] args) {
        vertexCountsTriangles();
        vertexRefusesNumbers();
        vertexRefusesTheTwentyFirst();
        vertexTakesTheMatrixOfItsTime();
        useAnswers();
        useCountsAtTheThirdVertex();
        refusedUseChangesNothing();
        texelAnswersWhatItWas();
        texelRefuses();
        clearDropsTriangles();
        clearKeepsTheRest();
        triangleTellsItsNumbers();
        triangleKeepsTheSign();
        triangleRefuses();
        CHECKS.end("TriangleTest");
    }

    /** A triangle over the whole picture whose U and V are the same everywhere. */
    private static void tellFull(ExactScene scene, int z, int u, int v) {
        scene.vertex(-1, -1, z, u, v);
        scene.vertex(3, -1, z, u, v);
        scene.vertex(-1, 3, z, u, v);
    }

    private static void vertexCountsTriangles() {
        ExactScene scene = new ExactScene();
        for (int n = 0; n < 60; n++) {
            int count = (n + 1) / 3;
            CHECKS.due("vertex " + n, count, () -> scene.vertex(1, 2, 3, 4, 5));
        }
        CHECKS.due("clear() of 20", 20, scene::clear);
    }

    private static void vertexRefusesNumbers() {
        ExactScene scene = new ExactScene();
        scene.vertex(0, 0, 0, 0, 0);
        scene.vertex(1, 0, 0, 0, 0);
        for (int x : new int[] {32, -32, 287, Integer.MIN_VALUE, Integer.MAX_VALUE}) {
            CHECKS.dueThrow("x " + x, IllegalArgumentException.class, () -> scene.vertex(x, 0, 0, 0, 0));
            CHECKS.dueThrow("y " + x, IllegalArgumentException.class, () -> scene.vertex(0, x, 0, 0, 0));
            CHECKS.dueThrow("z " + x, IllegalArgumentException.class, () -> scene.vertex(0, 0, x, 0, 0));
        }
        for (int u : new int[] {128, -128, 383, Integer.MIN_VALUE, Integer.MAX_VALUE}) {
            CHECKS.dueThrow("u " + u, IllegalArgumentException.class, () -> scene.vertex(0, 0, 0, u, 0));
            CHECKS.dueThrow("v " + u, IllegalArgumentException.class, () -> scene.vertex(0, 0, 0, 0, u));
        }
        CHECKS.due("the third vertex after refusals", 1, () -> scene.vertex(31, -31, 31, 127, -127));
        CHECKS.due("the limits again", 1, () -> scene.vertex(-31, 31, -31, -127, 127));
        CHECKS.due("P of vertex 2", 16L * 32, () -> scene.triangle(0, 9));
        CHECKS.due("Q of vertex 2", 12L * -30, () -> scene.triangle(0, 10));
    }

    private static void vertexRefusesTheTwentyFirst() {
        ExactScene scene = new ExactScene();
        for (int n = 0; n < 20; n++) {
            tellFull(scene, n, 0, 0);
        }
        CHECKS.dueThrow("a vertex of a 21st", IllegalStateException.class, () -> scene.vertex(0, 0, 0, 0, 0));
        CHECKS.dueThrow("a wrong one", IllegalArgumentException.class, () -> scene.vertex(0, 0, 32, 0, 0));
        CHECKS.dueThrow("a wrong v", IllegalArgumentException.class, () -> scene.vertex(0, 0, 0, 0, -128));
        CHECKS.due("clear()", 20, scene::clear);
        CHECKS.due("a vertex after clear()", 0, () -> scene.vertex(0, 0, 0, 0, 0));
        CHECKS.due("a second one", 0, () -> scene.vertex(0, 0, 0, 0, 0));
        CHECKS.due("a third one", 1, () -> scene.vertex(0, 0, 0, 0, 0));
    }

    private static void vertexTakesTheMatrixOfItsTime() {
        ExactScene scene = new ExactScene();
        scene.vertex(1, 2, 3, 0, 0);
        scene.move(10, 0, 0);
        scene.vertex(1, 2, 3, 0, 0);
        scene.row(3, 1, 1, 1, 1);
        scene.vertex(1, 2, 3, 0, 0);
        scene.row(2, 0, 0, 0, 0);
        CHECKS.due("P under the first matrix", 32L, () -> scene.triangle(0, 1));
        CHECKS.due("P under the second", 192L, () -> scene.triangle(0, 5));
        CHECKS.due("P under the third", 288L, () -> scene.triangle(0, 9));
        CHECKS.due("W under the third", 7L, () -> scene.triangle(0, 11));
        CHECKS.due("Z under the third", 3L, () -> scene.triangle(0, 12));
    }

    private static void useAnswers() {
        ExactScene scene = new ExactScene();
        for (int texture = -1; texture <= 2; texture++) {
            for (int mode = -1; mode <= 2; mode++) {
                for (int sides = -1; sides <= 3; sides++) {
                    int a = texture;
                    int b = mode;
                    int c = sides;
                    boolean all = (a == 0 || a == 1) && (b == 0 || b == 1) && c >= 0 && c <= 2;
                    CHECKS.due("use(" + a + ", " + b + ", " + c + ")", all, () -> scene.use(a, b, c));
                }
            }
        }
        CHECKS.due("use(MIN, 0, 0)", false, () -> scene.use(Integer.MIN_VALUE, 0, 0));
        CHECKS.due("use(0, MAX, 0)", false, () -> scene.use(0, Integer.MAX_VALUE, 0));
        CHECKS.due("use(0, 0, MIN)", false, () -> scene.use(0, 0, Integer.MIN_VALUE));
    }

    private static void useCountsAtTheThirdVertex() {
        ExactScene scene = new ExactScene();
        scene.texel(0, 1, 7, 10);
        scene.texel(1, 1, 7, 11);
        scene.texel(1, 7, 0, 12);
        scene.vertex(-1, -1, 0, 9, -1);
        scene.vertex(3, -1, 0, 9, -1);
        scene.use(1, 1, 0);
        scene.vertex(-1, 3, 0, 9, -1);
        scene.use(0, 0, 2);
        CHECKS.due("draw", 192, () -> scene.draw(0));
        CHECKS.due("the colour in texture 1, mode 1", 12, () -> scene.colour(5, 5));
        scene.clear();
        scene.use(1, 0, 0);
        tellFull(scene, 0, 9, -1);
        CHECKS.due("draw", 192, () -> scene.draw(0));
        CHECKS.due("the colour in texture 1, mode 0", 11, () -> scene.colour(5, 5));
        scene.clear();
        scene.use(0, 0, 0);
        tellFull(scene, 0, 9, -1);
        scene.draw(0);
        CHECKS.due("the colour in texture 0, mode 0", 10, () -> scene.colour(5, 5));
        scene.clear();
        scene.use(0, 0, 2);
        tellFull(scene, 0, 9, -1);
        CHECKS.due("draw of a front that is not shown", 0, () -> scene.draw(0));
    }

    private static void refusedUseChangesNothing() {
        ExactScene scene = new ExactScene();
        scene.texel(1, 0, 0, 55);
        scene.use(1, 1, 1);
        scene.use(0, 0, 3);
        scene.use(0, -1, 2);
        scene.use(2, 0, 2);
        tellFull(scene, 0, -5, -5);
        CHECKS.due("draw of a front", 192, () -> scene.draw(0));
        CHECKS.due("its colour", 55, () -> scene.colour(0, 0));
    }

    private static void texelAnswersWhatItWas() {
        ExactScene scene = new ExactScene();
        for (int n = 0; n < 128; n++) {
            int k = n;
            CHECKS.due("texel " + k + " at first", 0, () -> scene.texel(k / 64, k % 8, k / 8 % 8, k + 256 * k));
        }
        for (int n = 0; n < 128; n++) {
            int k = n;
            CHECKS.due("texel " + k + " then", k, () -> scene.texel(k / 64, k % 8, k / 8 % 8, -1));
        }
        CHECKS.due("the lowest eight bits of -1", 255, () -> scene.texel(1, 7, 7, 256));
        CHECKS.due("the lowest eight bits of 256", 0, () -> scene.texel(1, 7, 7, Integer.MIN_VALUE + 128));
        CHECKS.due("the lowest eight bits of MIN + 128", 128, () -> scene.texel(1, 7, 7, 0));
    }

    private static void texelRefuses() {
        ExactScene scene = new ExactScene();
        for (int n : new int[] {-1, 2, 8, Integer.MIN_VALUE, Integer.MAX_VALUE}) {
            CHECKS.dueThrow("texel(" + n + ", 0, 0, 1)", IndexOutOfBoundsException.class,
                    () -> scene.texel(n, 0, 0, 1));
        }
        for (int n : new int[] {-1, 8, Integer.MIN_VALUE, Integer.MAX_VALUE}) {
            CHECKS.dueThrow("texel(0, " + n + ", 0, 1)", IndexOutOfBoundsException.class,
                    () -> scene.texel(0, n, 0, 1));
            CHECKS.dueThrow("texel(1, 0, " + n + ", 1)", IndexOutOfBoundsException.class,
                    () -> scene.texel(1, 0, n, 1));
        }
        for (int n = 0; n < 128; n++) {
            int k = n;
            CHECKS.due("texel " + k + " after refusals", 0, () -> scene.texel(k / 64, k % 8, k / 8 % 8, 0));
        }
    }

    private static void clearDropsTriangles() {
        ExactScene scene = new ExactScene();
        CHECKS.due("clear() of a new object", 0, scene::clear);
        tellFull(scene, 0, 0, 0);
        tellFull(scene, 1, 0, 0);
        scene.vertex(0, 0, 0, 0, 0);
        scene.vertex(1, 0, 0, 0, 0);
        CHECKS.due("clear() of 2", 2, scene::clear);
        CHECKS.due("clear() again", 0, scene::clear);
        CHECKS.dueThrow("triangle(0, 0) then", IndexOutOfBoundsException.class, () -> scene.triangle(0, 0));
        CHECKS.due("vertex", 0, () -> scene.vertex(5, 0, 0, 0, 0));
        CHECKS.due("vertex", 0, () -> scene.vertex(6, 0, 0, 0, 0));
        CHECKS.due("vertex", 1, () -> scene.vertex(7, 0, 0, 0, 0));
        CHECKS.due("P of vertex 0", 96L, () -> scene.triangle(0, 1));
        CHECKS.due("P of vertex 2", 128L, () -> scene.triangle(0, 9));
    }

    private static void clearKeepsTheRest() {
        ExactScene scene = new ExactScene();
        scene.texel(1, 2, 3, 44);
        scene.use(1, 1, 1);
        scene.row(2, 0, 0, 3, 0);
        scene.push();
        tellFull(scene, 4, 2, 3);
        tellFull(scene, 3, 2, 3);
        CHECKS.due("draw", 192, () -> scene.draw(0));
        scene.clear();
        CHECKS.due("the colour stays", 44, () -> scene.colour(1, 2));
        CHECKS.due("the owner stays", 1, () -> scene.owner(1, 2));
        CHECKS.due("the depth stays", 9L, () -> scene.depth(1, 2));
        CHECKS.due("the matrix stays", 3, () -> scene.entry(2, 2));
        CHECKS.duePass("the pile stays", scene::pop);
        tellFull(scene, 31, 2, 3);
        CHECKS.due("the depth stays, with another triangle told", 9L, () -> scene.depth(1, 2));
        CHECKS.due("draw", 192, () -> scene.draw(0));
        CHECKS.due("what is in use stays", 44, () -> scene.colour(1, 2));
    }

    private static void triangleTellsItsNumbers() {
        ExactScene scene = new ExactScene();
        scene.row(0, 1, 2, 3, 4);
        scene.row(1, -1, 5, 0, 2);
        scene.row(2, 7, 0, -2, 1);
        scene.row(3, 1, 0, 1, 6);
        scene.vertex(1, 2, 3, 0, 0);
        scene.vertex(-2, 4, 1, 0, 0);
        scene.vertex(5, -3, 2, 0, 0);
        // X, Y, Z, W are 18, 11, 2, 10; 13, 24, -15, 5; 9, -18, 32, 13
        long[] want = {(448L * (348 * 13 - 5 * -60) - 252L * (288 * 13 - 5 * 352) + 10L * (288 * -60 - 348 * 352)),
            448, 252, 10, 2, 288, 348, 5, -15, 352, -60, 13, 32};
        for (int which = 0; which < 13; which++) {
            int n = which;
            CHECKS.due("triangle(0, " + n + ")", want[n], () -> scene.triangle(0, n));
        }
        scene.vertex(0, 0, 0, 0, 0);
        scene.vertex(0, 0, 0, 0, 0);
        scene.vertex(0, 1, 0, 0, 0);
        CHECKS.due("D of one that is a line", 0L, () -> scene.triangle(1, 0));
        CHECKS.due("Q of its vertex 2", 156L, () -> scene.triangle(1, 10));
        CHECKS.due("triangle 0 stays", want[0], () -> scene.triangle(0, 0));
    }

    private static void triangleKeepsTheSign() {
        ExactScene scene = new ExactScene();
        scene.vertex(-1, -1, 0, 0, 0);
        scene.vertex(-1, 1, 0, 0, 0);
        scene.vertex(1, -1, 0, 0, 0);
        CHECKS.due("D of one from behind", -768L, () -> scene.triangle(0, 0));
        scene.draw(0);
        CHECKS.due("D once it is drawn", -768L, () -> scene.triangle(0, 0));
        ExactScene great = new ExactScene();
        great.row(0, 511, 511, 511, 511);
        great.row(1, -511, 511, -511, 511);
        great.row(3, 511, -511, -511, 511);
        great.vertex(31, 31, 31, 0, 0);
        great.vertex(-31, 31, -31, 0, 0);
        great.vertex(31, -31, -31, 0, 0);
        CHECKS.due("a great D", greatD(), () -> great.triangle(0, 0));
    }

    private static long greatD() {
        long[] x = {511 * 94, 511 * -30, 511 * -30};
        long[] y = {511 * -30, 511 * 94, 511 * -30};
        long[] w = {511 * -30, 511 * -30, 511 * 94};
        java.math.BigInteger d = java.math.BigInteger.ZERO;
        for (int n = 0; n < 3; n++) {
            int m = (n + 1) % 3;
            int k = (n + 2) % 3;
            java.math.BigInteger minor = java.math.BigInteger.valueOf(12 * (y[m] + w[m]) * w[k] - w[m] * 12 * (y[k] + w[k]));
            d = d.add(minor.multiply(java.math.BigInteger.valueOf(16 * (x[n] + w[n]))));
        }
        return d.longValueExact();
    }

    private static void triangleRefuses() {
        ExactScene scene = new ExactScene();
        CHECKS.dueThrow("triangle(0, 0) of none", IndexOutOfBoundsException.class, () -> scene.triangle(0, 0));
        scene.vertex(0, 0, 0, 0, 0);
        scene.vertex(0, 0, 0, 0, 0);
        CHECKS.dueThrow("triangle(0, 1) of one not whole", IndexOutOfBoundsException.class, () -> scene.triangle(0, 1));
        scene.vertex(0, 0, 0, 0, 0);
        for (int n : NO_NUMBER) {
            CHECKS.dueThrow("triangle(0, " + n + ")", IndexOutOfBoundsException.class, () -> scene.triangle(0, n));
            CHECKS.dueThrow("triangle(" + n + ", 0)", IndexOutOfBoundsException.class, () -> scene.triangle(n, 0));
        }
        CHECKS.dueThrow("triangle(1, 0)", IndexOutOfBoundsException.class, () -> scene.triangle(1, 0));
        for (int n = 1; n < 20; n++) {
            tellFull(scene, 0, 0, 0);
        }
        CHECKS.due("triangle(19, 0)", 4L * 768, () -> scene.triangle(19, 0));
        CHECKS.dueThrow("triangle(20, 0)", IndexOutOfBoundsException.class, () -> scene.triangle(20, 0));
    }
}
