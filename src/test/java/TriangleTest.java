import java.math.BigInteger;

/** Promises 10 to 13 and 19: vertices, what is in use, texels, clear, and the numbers of a triangle. */
public final class TriangleTest {
    private static final Checks CHECKS = new Checks();
    private static final int[] NO_PLACE = {32, -32, 287, Integer.MIN_VALUE, Integer.MAX_VALUE};
    private static final int[] NO_TEXTURE_PLACE = {128, -128, 383, Integer.MIN_VALUE, Integer.MAX_VALUE};
    private static final int[] NO_TEXEL_LINE = {-1, 8, 64, Integer.MIN_VALUE, Integer.MAX_VALUE};
    private static final int MOST = 511 * (3 * 31 + 1);

    public static void main(String[] args) {
        vertexTests();
        useTests();
        texelTests();
        clearTests();
        triangleTests();
        CHECKS.end("TriangleTest");
    }

    private static void vertexTests() {
        vertexCountsTriangles();
        vertexTakesTheLimits();
        vertexRefusesNumbers();
        refusedVertexIsNotTold();
        vertexRefusesTheTwentyFirst();
        vertexRefusesNumbersFirst();
        vertexTakesTheMatrixOfItsTime();
        vertexReachesTheGreatestNumbers();
    }

    private static void useTests() {
        useAnswers();
        useCountsAtTheThirdVertex();
        refusedUseChangesNothing();
    }

    private static void texelTests() {
        texelAnswersWhatItWas();
        texelTakesTheLowestEightBits();
        texelRefusesWhatIsNone();
    }

    private static void clearTests() {
        clearAnswersHowMany();
        clearDropsVerticesOfOneNotWhole();
        clearOfAFullSceneMakesRoom();
        clearKeepsTheRest();
    }

    private static void triangleTests() {
        triangleTellsItsNumbers();
        triangleKeepsTheSign();
        triangleTellsZeroOfALine();
        triangleTellsTheGreatestNumbers();
        triangleRefusesWhatIsNone();
        triangleRefusesOneNotWhole();
        triangleRefusesOneThatIsCleared();
    }

    /** "How many triangles there are then": from none to the 20th. */
    private static void vertexCountsTriangles() {
        ExactScene scene = new ExactScene();
        for (int n = 0; n < 60; n++) {
            int count = (n + 1) / 3;
            CHECKS.due("vertex " + n, count, () -> scene.vertex(1, 2, 3, 4, 5));
        }
    }

    private static int vertexWith(ExactScene scene, int which, int number) {
        int[] all = new int[5];
        all[which] = number;
        return scene.vertex(all[0], all[1], all[2], all[3], all[4]);
    }

    /** "x, y, z (-31 .. 31), and u, v (-127 .. 127)": each number at both ends. */
    private static void vertexTakesTheLimits() {
        ExactScene scene = new ExactScene();
        for (int n = 0; n < 5; n++) {
            int which = n;
            int most = n < 3 ? 31 : 127;
            CHECKS.due("number " + n + " at its least", (2 * n + 1) / 3, () -> vertexWith(scene, which, -most));
            CHECKS.due("number " + n + " at its most", (2 * n + 2) / 3, () -> vertexWith(scene, which, most));
        }
        CHECKS.due("all at their most", 3, () -> scene.vertex(31, 31, 31, 127, 127));
        CHECKS.due("all at their least", 4, () -> scene.vertex(-31, -31, -31, -127, -127));
    }

    /** "A number is not as said": each one, just beyond its ends and far beyond them. */
    private static void vertexRefusesNumbers() {
        ExactScene scene = new ExactScene();
        for (int n = 0; n < 5; n++) {
            int which = n;
            for (int number : n < 3 ? NO_PLACE : NO_TEXTURE_PLACE) {
                CHECKS.dueThrow("number " + n + " " + number, IllegalArgumentException.class,
                        () -> vertexWith(scene, which, number));
            }
        }
    }

    /** "A call that throws .. changes nothing": the third vertex is the one that is not refused. */
    private static void refusedVertexIsNotTold() {
        ExactScene scene = new ExactScene();
        CHECKS.dueThrow("a first one", IllegalArgumentException.class, () -> scene.vertex(0, 0, 32, 0, 0));
        scene.vertex(1, 0, 0, 0, 0);
        CHECKS.dueThrow("a second one", IllegalArgumentException.class, () -> scene.vertex(9, 9, 9, 128, 0));
        scene.vertex(2, 0, 0, 0, 0);
        CHECKS.dueThrow("a third one", IllegalArgumentException.class, () -> scene.vertex(9, 9, 9, 0, -128));
        CHECKS.dueThrow("and no triangle", IndexOutOfBoundsException.class, () -> scene.triangle(0, 0));
        CHECKS.due("the third vertex after refusals", 1, () -> scene.vertex(3, 0, 0, 0, 0));
        CHECKS.due("P of vertex 0", 32L, () -> scene.triangle(0, 1));
        CHECKS.due("P of vertex 1", 48L, () -> scene.triangle(0, 5));
        CHECKS.due("P of vertex 2", 64L, () -> scene.triangle(0, 9));
        CHECKS.due("Q of vertex 2", 12L, () -> scene.triangle(0, 10));
    }

    private static ExactScene fullScene() {
        ExactScene scene = new ExactScene();
        for (int n = 0; n < 20; n++) {
            Scenes.tellFull(scene, n, 0, 0);
        }
        return scene;
    }

    /** "There are 20 triangles": the 60th vertex is taken, the 61st is not. */
    private static void vertexRefusesTheTwentyFirst() {
        ExactScene scene = new ExactScene();
        for (int n = 0; n < 19; n++) {
            Scenes.tellFull(scene, n, 0, 0);
        }
        CHECKS.due("vertex 58", 19, () -> scene.vertex(0, 0, 0, 0, 0));
        CHECKS.due("vertex 59", 19, () -> scene.vertex(0, 0, 0, 0, 0));
        CHECKS.due("vertex 60", 20, () -> scene.vertex(5, 0, 0, 0, 0));
        for (int n = 0; n < 4; n++) {
            CHECKS.dueThrow("vertex 61", IllegalStateException.class, () -> scene.vertex(7, 0, 0, 0, 0));
        }
        CHECKS.due("P of the last vertex", 96L, () -> scene.triangle(19, 9));
        CHECKS.due("P of the first vertex", 0L, () -> scene.triangle(0, 1));
        CHECKS.due("clear()", 20, scene::clear);
    }

    /** "Where several refusals hold, the first one named is thrown." */
    private static void vertexRefusesNumbersFirst() {
        ExactScene scene = fullScene();
        for (int n = 0; n < 5; n++) {
            int which = n;
            int beyond = n < 3 ? 32 : 128;
            CHECKS.dueThrow("number " + n + " too great", IllegalArgumentException.class,
                    () -> vertexWith(scene, which, beyond));
            CHECKS.dueThrow("number " + n + " too small", IllegalArgumentException.class,
                    () -> vertexWith(scene, which, -beyond));
        }
        CHECKS.dueThrow("none wrong", IllegalStateException.class, () -> scene.vertex(31, 31, 31, 127, 127));
    }

    private static void vertexTakesTheMatrixOfItsTime() {
        ExactScene scene = new ExactScene();
        scene.vertex(1, 2, 3, 0, 0);
        scene.move(10, 0, 0);
        scene.vertex(1, 2, 3, 0, 0);
        scene.row(3, 1, 1, 1, 1);
        scene.vertex(1, 2, 3, 0, 0);
        scene.row(2, 0, 0, 0, 0);
        CHECKS.due("P under the first matrix", 32L, () -> scene.triangle(0, 1));
        CHECKS.due("P under the second", 192L, () -> scene.triangle(0, 5));
        CHECKS.due("P under the third", 288L, () -> scene.triangle(0, 9));
        CHECKS.due("W under the third", 7L, () -> scene.triangle(0, 11));
        CHECKS.due("Z under the third", 3L, () -> scene.triangle(0, 12));
    }

    /** The greatest entries times the greatest x, y, z are X, Y, Z, W of 48,034 and its negative. */
    private static void vertexReachesTheGreatestNumbers() {
        ExactScene scene = new ExactScene();
        Scenes.set(scene, 511, 511, 511, 511, 511, 511, 511, 511, 511, 511, 511, 511, 511, 511, 511, 511);
        Scenes.tell(scene, 31, 31, 31);
        Scenes.set(scene, -511, -511, -511, -511, -511, -511, -511, -511, -511, -511, -511, -511,
                -511, -511, -511, -511);
        Scenes.tell(scene, 31, 31, 31);
        Scenes.set(scene, 511, 511, 511, -511, 511, 511, 511, -511, 511, 511, 511, -511, 511, 511, 511, -511);
        Scenes.tell(scene, -31, -31, -31);
        long[] want = {32L * MOST, 24L * MOST, MOST, MOST};
        for (int n = 0; n < 4; n++) {
            int which = n;
            CHECKS.due("the greatest number " + n, want[n], () -> scene.triangle(0, 1 + which));
            CHECKS.due("the least number " + n, -want[n], () -> scene.triangle(0, 5 + which));
            CHECKS.due("the least number " + n + " again", -want[n], () -> scene.triangle(0, 9 + which));
        }
    }

    /** "False when one is none": texture, mode and sides, each beyond both its ends. */
    private static void useAnswers() {
        ExactScene scene = new ExactScene();
        for (int texture = -1; texture <= 2; texture++) {
            for (int mode = -1; mode <= 2; mode++) {
                for (int sides = -1; sides <= 3; sides++) {
                    int a = texture;
                    int b = mode;
                    int c = sides;
                    boolean all = (a == 0 || a == 1) && (b == 0 || b == 1) && c >= 0 && c <= 2;
                    CHECKS.due("use(" + a + ", " + b + ", " + c + ")", all, () -> scene.use(a, b, c));
                }
            }
        }
        for (int far : new int[] {Integer.MIN_VALUE, Integer.MAX_VALUE, 256}) {
            CHECKS.due("use(" + far + ", 0, 0)", false, () -> scene.use(far, 0, 0));
            CHECKS.due("use(0, " + far + ", 0)", false, () -> scene.use(0, far, 0));
            CHECKS.due("use(0, 0, " + far + ")", false, () -> scene.use(0, 0, far));
        }
    }

    /** "In use when the third one is told": not at the first, nor at the draw. */
    private static void useCountsAtTheThirdVertex() {
        ExactScene scene = new ExactScene();
        scene.texel(0, 1, 7, 10);
        scene.texel(1, 1, 7, 11);
        scene.texel(1, 7, 0, 12);
        scene.use(1, 0, 2);
        scene.vertex(-1, -1, 0, 9, -1);
        scene.use(0, 0, 2);
        scene.vertex(3, -1, 0, 9, -1);
        scene.use(1, 1, 1);
        scene.vertex(-1, 3, 0, 9, -1);
        scene.use(0, 0, 2);
        CHECKS.due("draw", 192, () -> scene.draw(0));
        CHECKS.due("the colour in texture 1, mode 1", 12, () -> scene.colour(5, 5));
        scene.clear();
        scene.use(1, 0, 0);
        Scenes.tellFull(scene, 0, 9, -1);
        CHECKS.due("draw", 192, () -> scene.draw(0));
        CHECKS.due("the colour in texture 1, mode 0", 11, () -> scene.colour(5, 5));
        scene.clear();
        scene.use(0, 0, 0);
        Scenes.tellFull(scene, 0, 9, -1);
        scene.draw(0);
        CHECKS.due("the colour in texture 0, mode 0", 10, () -> scene.colour(5, 5));
    }

    /** "A call that .. answers false, changes nothing": neither what is none nor the other two. */
    private static void refusedUseChangesNothing() {
        int[][] refused = {{0, 0, 3}, {0, 0, -1}, {0, 2, 2}, {0, -1, 2}, {2, 0, 2}, {-1, 0, 2}};
        for (int[] use : refused) {
            ExactScene scene = new ExactScene();
            scene.texel(1, 0, 0, 55);
            scene.use(1, 1, 1);
            CHECKS.due("a use that is refused", false, () -> scene.use(use[0], use[1], use[2]));
            Scenes.tellFull(scene, 0, -5, -5);
            CHECKS.due("draw of a front", 192, () -> scene.draw(0));
            CHECKS.due("its colour", 55, () -> scene.colour(0, 0));
        }
    }

    /** "All 0 at first". */
    private static void texelAnswersWhatItWas() {
        ExactScene scene = new ExactScene();
        for (int n = 0; n < 128; n++) {
            int k = n;
            CHECKS.due("texel " + k + " at first", 0, () -> scene.texel(k / 64, k % 8, k / 8 % 8, k + 100));
        }
        for (int n = 0; n < 128; n++) {
            int k = n;
            CHECKS.due("texel " + k + " then", k + 100, () -> scene.texel(k / 64, k % 8, k / 8 % 8, 0));
        }
    }

    /** "The lowest eight bits of x". */
    private static void texelTakesTheLowestEightBits() {
        int[][] pairs = {{0, 0}, {1, 1}, {127, 127}, {128, 128}, {255, 255}, {256, 0}, {257, 1}, {511, 255}, {-1, 255},
            {-128, 128}, {-255, 1}, {-256, 0}, {-257, 255}, {Integer.MIN_VALUE, 0}, {Integer.MIN_VALUE + 128, 128},
            {Integer.MAX_VALUE, 255}};
        ExactScene scene = new ExactScene();
        for (int[] pair : pairs) {
            scene.texel(1, 7, 0, pair[0]);
            CHECKS.due("the lowest eight bits of " + pair[0], pair[1], () -> scene.texel(1, 7, 0, 99));
        }
    }

    /** "There is none": and none that stands elsewhere is changed. */
    private static void texelRefusesWhatIsNone() {
        ExactScene scene = new ExactScene();
        for (int n : new int[] {-1, 2, 8, Integer.MIN_VALUE, Integer.MAX_VALUE}) {
            CHECKS.dueThrow("texel(" + n + ", 0, 0, 1)", IndexOutOfBoundsException.class,
                    () -> scene.texel(n, 0, 0, 1));
        }
        for (int n : NO_TEXEL_LINE) {
            for (int k = 0; k < 2; k++) {
                int texture = k;
                CHECKS.dueThrow("texel(" + k + ", " + n + ", 3, 1)", IndexOutOfBoundsException.class,
                        () -> scene.texel(texture, n, 3, 1));
                CHECKS.dueThrow("texel(" + k + ", 3, " + n + ", 1)", IndexOutOfBoundsException.class,
                        () -> scene.texel(texture, 3, n, 1));
            }
        }
        for (int n = 0; n < 128; n++) {
            int k = n;
            CHECKS.due("texel " + k + " after refusals", 0, () -> scene.texel(k / 64, k % 8, k / 8 % 8, 0));
        }
    }

    /** "Answers how many triangles there were": none, some, one that is not whole, and all. */
    private static void clearAnswersHowMany() {
        ExactScene scene = new ExactScene();
        CHECKS.due("clear() of a new object", 0, scene::clear);
        Scenes.tell(scene, 0, 0, 0);
        Scenes.tell(scene, 0, 0, 0);
        CHECKS.due("clear() of two vertices", 0, scene::clear);
        Scenes.tellFull(scene, 0, 0, 0);
        Scenes.tellFull(scene, 1, 0, 0);
        Scenes.tell(scene, 0, 0, 0);
        CHECKS.due("clear() of 2 and a vertex", 2, scene::clear);
        CHECKS.due("clear() again", 0, scene::clear);
        CHECKS.due("clear() of 20", 20, fullScene()::clear);
    }

    /** "And no vertices of one that is not whole". */
    private static void clearDropsVerticesOfOneNotWhole() {
        for (int told = 1; told <= 2; told++) {
            ExactScene scene = new ExactScene();
            for (int n = 0; n < told; n++) {
                Scenes.tell(scene, 9, 9, 9);
            }
            scene.clear();
            CHECKS.due("vertex 1", 0, () -> scene.vertex(5, 0, 0, 0, 0));
            CHECKS.due("vertex 2", 0, () -> scene.vertex(6, 0, 0, 0, 0));
            CHECKS.due("vertex 3", 1, () -> scene.vertex(7, 0, 0, 0, 0));
            CHECKS.due("P of vertex 0", 96L, () -> scene.triangle(0, 1));
            CHECKS.due("P of vertex 1", 112L, () -> scene.triangle(0, 5));
            CHECKS.due("P of vertex 2", 128L, () -> scene.triangle(0, 9));
        }
    }

    /** "There are no triangles any more": 20 can be told again. */
    private static void clearOfAFullSceneMakesRoom() {
        ExactScene scene = fullScene();
        scene.clear();
        for (int n = 0; n < 60; n++) {
            int count = (n + 1) / 3;
            CHECKS.due("vertex " + n + " after clear()", count, () -> scene.vertex(0, 0, 0, 0, 0));
        }
        CHECKS.dueThrow("vertex 61 after clear()", IllegalStateException.class, () -> scene.vertex(0, 0, 0, 0, 0));
    }

    /** "(What is drawn stays.)" And so does all that the promise does not name. */
    private static void clearKeepsTheRest() {
        ExactScene scene = new ExactScene();
        scene.texel(1, 2, 3, 44);
        scene.use(1, 1, 1);
        scene.row(2, 0, 0, 3, 0);
        scene.push();
        Scenes.tellFull(scene, 4, 2, 3);
        Scenes.tellFull(scene, 3, 2, 3);
        CHECKS.due("draw", 192, () -> scene.draw(0));
        scene.clear();
        CHECKS.due("the colour stays", 44, () -> scene.colour(1, 2));
        CHECKS.due("the owner stays", 1, () -> scene.owner(1, 2));
        CHECKS.due("the depth stays", 9L, () -> scene.depth(1, 2));
        CHECKS.due("the matrix stays", 3, () -> scene.entry(2, 2));
        CHECKS.duePass("the pile stays", scene::pop);
        Scenes.tellFull(scene, 31, 2, 3);
        CHECKS.due("the depth stays, with another triangle told", 9L, () -> scene.depth(1, 2));
        CHECKS.due("draw", 192, () -> scene.draw(0));
        CHECKS.due("what is in use stays", 44, () -> scene.colour(1, 2));
    }

    private static void triangleTellsItsNumbers() {
        ExactScene scene = new ExactScene();
        scene.row(0, 1, 2, 3, 4);
        scene.row(1, -1, 5, 0, 2);
        scene.row(2, 7, 0, -2, 1);
        scene.row(3, 1, 0, 1, 6);
        scene.vertex(1, 2, 3, 0, 0);
        scene.vertex(-2, 4, 1, 0, 0);
        scene.vertex(5, -3, 2, 0, 0);
        // X, Y, Z, W are 18, 11, 2, 10; 13, 24, -15, 5; 9, -18, 32, 13
        long[] want = {(448L * (348 * 13 - 5 * -60) - 252L * (288 * 13 - 5 * 352) + 10L * (288 * -60 - 348 * 352)),
            448, 252, 10, 2, 288, 348, 5, -15, 352, -60, 13, 32};
        for (int which = 0; which < 13; which++) {
            int n = which;
            CHECKS.due("triangle(0, " + n + ")", want[n], () -> scene.triangle(0, n));
        }
        Scenes.tellFull(scene, 0, 0, 0);
        CHECKS.due("triangle 0 stays", want[0], () -> scene.triangle(0, 0));
    }

    /** "D = det(p0, p1, p2)": below 0 from behind, before and after it is drawn. */
    private static void triangleKeepsTheSign() {
        ExactScene scene = new ExactScene();
        Scenes.tellFullFromBehind(scene, 0, 0, 0);
        CHECKS.due("D of one from behind", -4L * 768, () -> scene.triangle(0, 0));
        scene.draw(0);
        CHECKS.due("D once it is drawn", -4L * 768, () -> scene.triangle(0, 0));
        Scenes.tellFull(scene, 0, 0, 0);
        CHECKS.due("D of one from the front", 4L * 768, () -> scene.triangle(1, 0));
    }

    /** "D of a triangle": 0 where the places are on a line. */
    private static void triangleTellsZeroOfALine() {
        ExactScene scene = new ExactScene();
        Scenes.tell(scene, 0, 0, 5);
        Scenes.tell(scene, 0, 0, 6);
        Scenes.tell(scene, 0, 1, 7);
        CHECKS.due("D of one that is a line", 0L, () -> scene.triangle(0, 0));
        CHECKS.due("Q of its vertex 2", 24L, () -> scene.triangle(0, 10));
        CHECKS.due("Z of its vertex 2", 7L, () -> scene.triangle(0, 12));
    }

    /** The greatest D is 192 * 4 * 48,034^3, as no 3 * 3 matrix of 1 and -1 has a determinant above 4. */
    private static void triangleTellsTheGreatestNumbers() {
        long greatest = BigInteger.valueOf(MOST).pow(3).multiply(BigInteger.valueOf(768)).longValueExact();
        int[][] corners = {{-MOST, MOST, MOST, MOST}, {MOST, -MOST, -MOST, MOST}, {MOST, MOST, MOST, -MOST}};
        ExactScene front = new ExactScene();
        ExactScene behind = new ExactScene();
        for (int n = 0; n < 3; n++) {
            Scenes.tellMade(front, corners[n]);
            Scenes.tellMade(behind, corners[2 - n]);
        }
        CHECKS.due("the greatest D", greatest, () -> front.triangle(0, 0));
        CHECKS.due("the least D", -greatest, () -> behind.triangle(0, 0));
        CHECKS.due("P of vertex 2", 0L, () -> front.triangle(0, 9));
        CHECKS.due("W of vertex 2", (long) -MOST, () -> front.triangle(0, 11));
        CHECKS.due("Z of vertex 1", (long) -MOST, () -> front.triangle(0, 8));
    }

    /** "There is none such": no such triangle, or no such number of one. */
    private static void triangleRefusesWhatIsNone() {
        ExactScene scene = new ExactScene();
        CHECKS.dueThrow("triangle(0, 0) of none", IndexOutOfBoundsException.class, () -> scene.triangle(0, 0));
        CHECKS.dueThrow("triangle(-1, 0) of none", IndexOutOfBoundsException.class, () -> scene.triangle(-1, 0));
        Scenes.tellFull(scene, 0, 0, 0);
        for (int n : new int[] {-1, 13, 14, Integer.MIN_VALUE, Integer.MAX_VALUE}) {
            CHECKS.dueThrow("triangle(0, " + n + ")", IndexOutOfBoundsException.class, () -> scene.triangle(0, n));
        }
        for (int n : new int[] {-1, 1, 2, 19, 20, Integer.MIN_VALUE, Integer.MAX_VALUE}) {
            CHECKS.dueThrow("triangle(" + n + ", 0)", IndexOutOfBoundsException.class, () -> scene.triangle(n, 0));
            CHECKS.dueThrow("triangle(" + n + ", 12)", IndexOutOfBoundsException.class, () -> scene.triangle(n, 12));
        }
        ExactScene full = fullScene();
        CHECKS.due("triangle(19, 0)", 4L * 768, () -> full.triangle(19, 0));
        CHECKS.due("triangle(19, 12)", 19L, () -> full.triangle(19, 12));
        CHECKS.dueThrow("triangle(20, 0)", IndexOutOfBoundsException.class, () -> full.triangle(20, 0));
        CHECKS.dueThrow("triangle(19, 13)", IndexOutOfBoundsException.class, () -> full.triangle(19, 13));
    }

    /** "There is none such": one or two vertices are no triangle. */
    private static void triangleRefusesOneNotWhole() {
        ExactScene scene = new ExactScene();
        Scenes.tellFull(scene, 0, 0, 0);
        Scenes.tell(scene, 0, 0, 0);
        CHECKS.dueThrow("triangle(1, 1) of one vertex", IndexOutOfBoundsException.class, () -> scene.triangle(1, 1));
        Scenes.tell(scene, 0, 0, 0);
        CHECKS.dueThrow("triangle(1, 1) of two", IndexOutOfBoundsException.class, () -> scene.triangle(1, 1));
        Scenes.tell(scene, 0, 0, 0);
        CHECKS.due("triangle(1, 1) of three", 16L, () -> scene.triangle(1, 1));
    }

    /** "There is none such": no longer, after clear(). */
    private static void triangleRefusesOneThatIsCleared() {
        ExactScene scene = fullScene();
        scene.clear();
        CHECKS.dueThrow("triangle(0, 0)", IndexOutOfBoundsException.class, () -> scene.triangle(0, 0));
        CHECKS.dueThrow("triangle(19, 0)", IndexOutOfBoundsException.class, () -> scene.triangle(19, 0));
        Scenes.tellFull(scene, 0, 0, 0);
        CHECKS.due("triangle(0, 0)", 4L * 768, () -> scene.triangle(0, 0));
        CHECKS.dueThrow("triangle(1, 0)", IndexOutOfBoundsException.class, () -> scene.triangle(1, 0));
    }
}
