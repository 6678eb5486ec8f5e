/** Promises 1 and 14 to 18: a new object, drawing, and what is drawn. */
public final class PictureTest {
    private static final Checks CHECKS = new Checks();

    public static void main(String[] args) {
        newObjectShowsNothing();
        drawTakesTheBackground();
        leastDepthOwns();
        equalDepthsGoToTheLeastNumber();
        edgesBelongToOneSide();
        sidesHide();
        linesCoverNothing();
        modesChooseTexels();
        textureIsTakenWhenDrawn();
        placesAreCutDown();
        perspectiveBendsTheTexture();
        verticesBehindTheEyeCount();
        nextDrawReplacesAll();
        depthIsCutDown();
        compareTellsTheOrder();
        compareIsExact();
        pixelsOutsideAreRefused();
        CHECKS.end("PictureTest");
    }

    private static void tell(ExactScene scene, int x, int y, int z) {
        scene.vertex(x, y, z, 0, 0);
    }

    /** A triangle over the whole picture, from the front, at one depth. */
    private static void tellFull(ExactScene scene, int z, int u, int v) {
        scene.vertex(-1, -1, z, u, v);
        scene.vertex(3, -1, z, u, v);
        scene.vertex(-1, 3, z, u, v);
    }

    private static void dueOwners(String what, ExactScene scene, String... lines) {
        for (int j = 0; j < 12; j++) {
            StringBuilder got = new StringBuilder();
            for (int i = 0; i < 16; i++) {
                int owner = scene.owner(i, j);
                got.append(owner == ExactScene.NONE ? "." : String.valueOf(owner));
            }
            String want = lines[j];
            CHECKS.due(what + ", owners of line " + j, want, got::toString);
        }
    }

    private static void newObjectShowsNothing() {
        ExactScene scene = new ExactScene();
        CHECKS.due("NONE", -1, () -> ExactScene.NONE);
        for (int n = 0; n < 192; n++) {
            int i = n % 16;
            int j = n / 16;
            CHECKS.due("owner of a new object", -1, () -> scene.owner(i, j));
            CHECKS.due("colour of a new object", 0, () -> scene.colour(i, j));
            CHECKS.dueThrow("depth of a new object", IllegalStateException.class, () -> scene.depth(i, j));
        }
        CHECKS.dueThrow("compare of a new object", IllegalStateException.class, () -> scene.compare(0, 0, 0, 0));
        CHECKS.dueThrow("triangle of a new object", IndexOutOfBoundsException.class, () -> scene.triangle(0, 0));
        CHECKS.due("clear of a new object", 0, scene::clear);
        tellFull(scene, 0, 0, 0);
        CHECKS.due("owner before a draw", -1, () -> scene.owner(3, 3));
        ExactScene other = new ExactScene();
        other.texel(0, 0, 0, 9);
        tellFull(other, 0, 0, 0);
        CHECKS.due("texture 0, mode 0, sides 0 at first", 192, () -> other.draw(1));
        CHECKS.due("and its colour", 9, () -> other.colour(15, 11));
    }

    private static void drawTakesTheBackground() {
        ExactScene scene = new ExactScene();
        int[][] pairs = {{7, 7}, {255, 255}, {256, 0}, {300, 44}, {-1, 255}, {-256, 0}, {Integer.MAX_VALUE, 255}};
        for (int[] pair : pairs) {
            CHECKS.due("draw of nothing", 0, () -> scene.draw(pair[0]));
            CHECKS.due("background " + pair[0], pair[1], () -> scene.colour(0, 0));
            CHECKS.due("background " + pair[0], pair[1], () -> scene.colour(15, 11));
        }
        CHECKS.due("owner of a background", -1, () -> scene.owner(15, 11));
    }

    private static void leastDepthOwns() {
        ExactScene scene = new ExactScene();
        scene.texel(0, 0, 0, 10);
        scene.texel(0, 1, 0, 11);
        scene.texel(0, 2, 0, 12);
        tellFull(scene, 5, 0, 0);
        tellFull(scene, -5, 1, 0);
        tellFull(scene, 0, 2, 0);
        CHECKS.due("draw of three", 192, () -> scene.draw(0));
        CHECKS.due("the one in front", 1, () -> scene.owner(4, 4));
        CHECKS.due("its colour", 11, () -> scene.colour(4, 4));
        CHECKS.due("its depth", -5L, () -> scene.depth(4, 4));
        ExactScene crossing = new ExactScene();
        crossing.vertex(-1, -1, -8, 0, 0);
        crossing.vertex(3, -1, 24, 0, 0);
        crossing.vertex(-1, 3, -8, 0, 0);
        tellFull(crossing, 0, 0, 0);
        crossing.draw(0);
        CHECKS.due("left of the crossing", 0, () -> crossing.owner(7, 3));
        CHECKS.due("right of the crossing", 1, () -> crossing.owner(8, 3));
    }

    private static void equalDepthsGoToTheLeastNumber() {
        ExactScene scene = new ExactScene();
        tellFull(scene, 4, 0, 0);
        tellFull(scene, 3, 0, 0);
        tellFull(scene, 3, 0, 0);
        tell(scene, -31, -31, 3);
        tell(scene, 31, -31, 3);
        tell(scene, 0, 31, 3);
        CHECKS.due("draw", 192, () -> scene.draw(0));
        for (int n = 0; n < 192; n++) {
            int i = n % 16;
            int j = n / 16;
            CHECKS.due("owner of equal depths", 1, () -> scene.owner(i, j));
        }
    }

    /** With W = 16, X = x and Y = 4 * y the edges of this rectangle run through centres of pixels. */
    private static void tellRectangle(ExactScene scene, boolean behind) {
        scene.row(1, 0, 4, 0, 0);
        scene.row(3, 0, 0, 0, 16);
        int[][] corners = {{-7, -1}, {9, -1}, {-7, 3}, {9, -1}, {9, 3}, {-7, 3}};
        for (int n = 0; n < 6; n++) {
            int[] corner = corners[behind ? 5 - n : n];
            tell(scene, corner[0], corner[1], 0);
        }
    }

    private static void edgesBelongToOneSide() {
        for (int n = 0; n < 2; n++) {
            ExactScene scene = new ExactScene();
            tellRectangle(scene, n == 1);
            CHECKS.due("draw of a rectangle", 48, () -> scene.draw(0));
            dueEdges("rectangle " + n, scene);
        }
        ExactScene diagonal = new ExactScene();
        diagonal.row(1, 0, 4, 0, 0);
        diagonal.row(3, 0, 0, 0, 16);
        tell(diagonal, -7, -1, 0);
        tell(diagonal, 5, -1, 0);
        tell(diagonal, -7, 1, 0);
        tell(diagonal, 5, -1, 0);
        tell(diagonal, 5, 1, 0);
        tell(diagonal, -7, 1, 0);
        // the diagonal runs through the centres of (8, 5) and (6, 6)
        CHECKS.due("draw of two halves", 18, () -> diagonal.draw(0));
        dueOwners("two halves", diagonal, "................", "................", "................",
                "................", "....000000......", "....000011......", "....001111......",
                "................", "................", "................", "................", "................");
    }

    private static void dueEdges(String what, ExactScene scene) {
        for (int n = 0; n < 192; n++) {
            int i = n % 16;
            int j = n / 16;
            boolean inside = i >= 4 && i <= 11 && j >= 4 && j <= 9;
            CHECKS.due(what + " at (" + i + ", " + j + ")", inside, () -> scene.owner(i, j) != ExactScene.NONE);
        }
    }

    private static void sidesHide() {
        int[] wantFront = {192, 192, 0};
        int[] wantBehind = {192, 0, 192};
        for (int n = 0; n < 3; n++) {
            int sides = n;
            ExactScene front = new ExactScene();
            front.use(0, 0, sides);
            tellFull(front, 0, 0, 0);
            CHECKS.due("sides " + sides + " from the front", wantFront[sides], () -> front.draw(0));
            ExactScene behind = new ExactScene();
            behind.use(0, 0, sides);
            tell(behind, -1, -1, 2);
            tell(behind, -1, 3, 2);
            tell(behind, 3, -1, 2);
            CHECKS.due("sides " + sides + " from behind", wantBehind[sides], () -> behind.draw(0));
            if (sides != 1) {
                CHECKS.due("depth from behind", 2L, () -> behind.depth(2, 9));
            }
        }
    }

    private static void linesCoverNothing() {
        ExactScene scene = new ExactScene();
        scene.row(3, 0, 0, 0, 16);
        tell(scene, -15, 0, 0);
        tell(scene, 1, 0, 0);
        tell(scene, 15, 0, 0);
        tell(scene, 1, 0, 0);
        tell(scene, 1, 0, 0);
        tell(scene, 1, 0, 0);
        CHECKS.due("draw of lines", 0, () -> scene.draw(0));
        scene.row(0, 0, 0, 0, 0);
        scene.row(1, 0, 0, 0, 0);
        scene.row(3, 0, 0, 0, 0);
        tell(scene, 1, 2, 3);
        tell(scene, 3, 1, 2);
        tell(scene, 2, 3, 1);
        CHECKS.due("draw of a triangle of zeros", 0, () -> scene.draw(0));
    }

    private static void modesChooseTexels() {
        int[][] table = {{0, 0, 0}, {7, 7, 7}, {8, 0, 7}, {-1, 7, 0}, {-8, 0, 0}, {-9, 7, 0}, {127, 7, 7},
            {-127, 1, 0}, {13, 5, 7}};
        for (int[] row : table) {
            for (int m = 0; m < 2; m++) {
                int mode = m;
                ExactScene scene = new ExactScene();
                scene.use(1, mode, 0);
                scene.texel(1, row[1 + mode], 3, 77);
                scene.texel(1, 3, row[1 + mode], 88);
                tellFull(scene, 0, row[0], 3);
                scene.draw(0);
                if (row[1 + mode] != 3) {
                    CHECKS.due("mode " + mode + ", U " + row[0], 77, () -> scene.colour(9, 9));
                    scene.clear();
                    tellFull(scene, 0, 3, row[0]);
                    scene.draw(0);
                    CHECKS.due("mode " + mode + ", V " + row[0], 88, () -> scene.colour(9, 9));
                }
            }
        }
    }

    private static void textureIsTakenWhenDrawn() {
        ExactScene scene = new ExactScene();
        tellFull(scene, 0, 2, 6);
        scene.texel(0, 2, 6, 50);
        scene.draw(0);
        scene.texel(0, 2, 6, 60);
        CHECKS.due("the colour stays", 50, () -> scene.colour(0, 0));
        scene.draw(0);
        CHECKS.due("the colour of the next draw", 60, () -> scene.colour(0, 0));
    }

    private static void placesAreCutDown() {
        ExactScene scene = new ExactScene();
        for (int s = 0; s < 8; s++) {
            scene.texel(0, s, 0, 100 + s);
        }
        scene.vertex(-1, -1, 0, -4, 0);
        scene.vertex(3, -1, 0, 12, 0);
        scene.vertex(-1, 3, 0, -4, 0);
        scene.draw(0);
        // U is -4 + (2 * i + 1) / 4
        int[] want = {104, 104, 105, 105, 106, 106, 107, 107, 100, 100, 101, 101, 102, 102, 103, 103};
        for (int n = 0; n < 16; n++) {
            int i = n;
            CHECKS.due("colour(" + i + ", 5)", want[i], () -> scene.colour(i, 5));
        }
    }

    private static void perspectiveBendsTheTexture() {
        ExactScene scene = new ExactScene();
        for (int s = 0; s < 8; s++) {
            scene.texel(0, s, 0, 100 + s);
        }
        scene.use(0, 1, 0);
        // W is z, so the right side is four times as far away as the left one
        scene.row(3, 0, 0, 1, 0);
        scene.vertex(-1, -1, 1, 0, 0);
        scene.vertex(4, -4, 4, 8, 0);
        scene.vertex(-1, 1, 1, 0, 0);
        scene.vertex(4, -4, 4, 8, 0);
        scene.vertex(4, 4, 4, 8, 0);
        scene.vertex(-1, 1, 1, 0, 0);
        CHECKS.due("draw of a wall", 192, () -> scene.draw(0));
        for (int n = 0; n < 16; n++) {
            int i = n;
            // with t the way across in 32nds, 8 * t / (4 * (32 - t) + t)
            int t = 2 * i + 1;
            int want = 100 + 8 * t / (4 * (32 - t) + t);
            CHECKS.due("colour(" + i + ", 0)", want, () -> scene.colour(i, 0));
            CHECKS.due("colour(" + i + ", 11)", want, () -> scene.colour(i, 11));
        }
    }

    private static void verticesBehindTheEyeCount() {
        ExactScene scene = new ExactScene();
        scene.row(3, 0, 0, 1, 0);
        tell(scene, 0, -2, 2);
        tell(scene, 2, 2, 2);
        tell(scene, -2, 0, -1);
        // it shows on the far side of the edge between the other two: where 2 * i + 1 < 16 + 2 / 3 * (2 * j + 1)
        CHECKS.due("draw with a vertex behind the eye", 144, () -> scene.draw(0));
        dueOwners("a vertex behind the eye", scene, "00000000........", "000000000.......", "0000000000......",
                "0000000000......", "00000000000.....", "000000000000....", "000000000000....", "0000000000000...",
                "00000000000000..", "00000000000000..", "000000000000000.", "0000000000000000");
    }

    private static void nextDrawReplacesAll() {
        ExactScene scene = new ExactScene();
        tellFull(scene, 0, 0, 0);
        scene.draw(0);
        CHECKS.due("clear()", 1, scene::clear);
        CHECKS.due("owner after clear()", 0, () -> scene.owner(2, 2));
        tellRectangle(scene, false);
        CHECKS.due("the next draw", 48, () -> scene.draw(8));
        dueEdges("the next draw", scene);
        CHECKS.due("the background then", 8, () -> scene.colour(2, 2));
        CHECKS.dueThrow("depth there", IllegalStateException.class, () -> scene.depth(2, 2));
    }

    private static void depthIsCutDown() {
        ExactScene scene = new ExactScene();
        scene.vertex(-1, -1, -8, 0, 0);
        scene.vertex(3, -1, 24, 0, 0);
        scene.vertex(-1, 3, -8, 0, 0);
        scene.draw(0);
        // the depth is i - 15 / 2
        for (int n = 0; n < 16; n++) {
            int i = n;
            CHECKS.due("depth(" + i + ", 2)", (long) i - 8, () -> scene.depth(i, 2));
        }
        ExactScene great = new ExactScene();
        great.row(2, 511, 511, 511, 511);
        tell(great, 31, 31, 31);
        tell(great, -31, 31, 31);
        tell(great, 0, -31, 31);
        great.draw(0);
        // the depth is 511 * (1 / 16 + 1 / 12 + 32)
        CHECKS.due("a great depth", 16426L, () -> great.depth(8, 6));
    }

    private static void compareTellsTheOrder() {
        ExactScene scene = new ExactScene();
        scene.vertex(-1, -1, -8, 0, 0);
        scene.vertex(3, -1, 24, 0, 0);
        scene.vertex(-1, 3, -8, 0, 0);
        scene.draw(0);
        CHECKS.due("less", -1, () -> scene.compare(3, 9, 4, 1));
        CHECKS.due("greater", 1, () -> scene.compare(4, 1, 3, 9));
        CHECKS.due("equal", 0, () -> scene.compare(4, 1, 4, 9));
        CHECKS.due("of different signs", -1, () -> scene.compare(7, 0, 8, 0));
        CHECKS.due("both below 0", 1, () -> scene.compare(2, 0, 1, 0));
        scene.clear();
        CHECKS.due("less, after clear()", -1, () -> scene.compare(3, 9, 4, 1));
        ExactScene part = new ExactScene();
        tellRectangle(part, false);
        part.draw(0);
        CHECKS.dueThrow("the first has no owner", IllegalStateException.class, () -> part.compare(0, 0, 5, 5));
        CHECKS.dueThrow("the second has no owner", IllegalStateException.class, () -> part.compare(5, 5, 0, 0));
        CHECKS.due("both have one", 0, () -> part.compare(5, 5, 6, 6));
    }

    /**
     * Two triangles share the edge between vertices 0 and 1, which runs by the centre of (7, 5) so
     * closely that E2 is 8 there: their depths differ by less than a double can tell, and each has
     * another D, so that whoever compares products needs more than a long.
     */
    private static void compareIsExact() {
        int[] greater = {-41307, 34927, -15611, -27087};
        int[] less = {-44687, 30881, 41407, -27508};
        ExactScene lessLast = new ExactScene();
        tellByAHair(lessLast, 1, greater);
        tellByAHair(lessLast, 1, less);
        lessLast.draw(0);
        CHECKS.due("owner by a hair", 1, () -> lessLast.owner(7, 5));
        ExactScene lessFirst = new ExactScene();
        tellByAHair(lessFirst, 1, less);
        tellByAHair(lessFirst, 1, greater);
        lessFirst.draw(0);
        CHECKS.due("owner by a hair", 0, () -> lessFirst.owner(7, 5));
        ExactScene mirrored = new ExactScene();
        tellByAHair(mirrored, 1, greater);
        tellByAHair(mirrored, -1, less);
        mirrored.draw(0);
        CHECKS.due("the greater one's owner", 0, () -> mirrored.owner(7, 5));
        CHECKS.due("the other's owner", 1, () -> mirrored.owner(8, 5));
        CHECKS.due("greater by a hair", 1, () -> mirrored.compare(7, 5, 8, 5));
        CHECKS.due("less by a hair", -1, () -> mirrored.compare(8, 5, 7, 5));
    }

    /** The third vertex is X, Y, Z, W; mirror -1 shows the left side of the picture on the right. */
    private static void tellByAHair(ExactScene scene, int mirror, int[] third) {
        tellMade(scene, mirror * -25970, -35138, 48034, -39277);
        tellMade(scene, mirror * 18684, 25288, 48034, 35483);
        tellMade(scene, mirror * third[0], third[1], third[2], third[3]);
    }

    /** A vertex of which the matrix makes just these numbers. */
    private static void tellMade(ExactScene scene, int... made) {
        for (int row = 0; row < 4; row++) {
            int whole = Math.max(-1533, Math.min(1533, made[row] / 31));
            int a = Math.max(-511, Math.min(511, whole));
            int b = Math.max(-511, Math.min(511, whole - a));
            scene.row(row, a, b, whole - a - b, made[row] - 31 * whole);
        }
        tell(scene, 31, 31, 31);
    }

    private static void pixelsOutsideAreRefused() {
        ExactScene scene = new ExactScene();
        int[][] outside = {{-1, 0}, {16, 0}, {0, -1}, {0, 12}, {12, 12}, {Integer.MIN_VALUE, 0},
            {0, Integer.MAX_VALUE}, {-16, 1}, {16, -1}};
        for (int n = 0; n < 2; n++) {
            for (int[] pixel : outside) {
                int i = pixel[0];
                int j = pixel[1];
                String at = "(" + i + ", " + j + ")";
                CHECKS.dueThrow("colour" + at, IndexOutOfBoundsException.class, () -> scene.colour(i, j));
                CHECKS.dueThrow("owner" + at, IndexOutOfBoundsException.class, () -> scene.owner(i, j));
                CHECKS.dueThrow("depth" + at, IndexOutOfBoundsException.class, () -> scene.depth(i, j));
                CHECKS.dueThrow("compare first" + at, IndexOutOfBoundsException.class, () -> scene.compare(i, j, 0, 0));
                CHECKS.dueThrow("compare second" + at, IndexOutOfBoundsException.class,
                        () -> scene.compare(0, 0, i, j));
            }
            tellFull(scene, 0, 0, 0);
            scene.draw(0);
        }
        CHECKS.due("the last pixel", 0, () -> scene.owner(15, 11));
    }
}
