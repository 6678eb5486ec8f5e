/** What the terms say of covering, of depths and of texels; each test stands under the words that it holds. */
public final class CoverTest {
    private static final Checks CHECKS = new Checks();

    public static void main(String[] args) {
        zeroDeterminantTests();
        edgeTests();
        sideTests();
        placeTests();
        textureTests();
        CHECKS.end("CoverTest");
    }

    private static void zeroDeterminantTests() {
        linesCoverNothing();
        pointsCoverNothing();
        zerosCoverNothing();
        zeroDeterminantCoversNothingThoughAllElseIsAboveZero();
    }

    private static void edgeTests() {
        centresOnALeftEdgeAreCovered();
        centresOnARightEdgeAreNot();
        centresOnAnUpperEdgeAreCovered();
        centresOnALowerEdgeAreNot();
        centresOnASlantedEdgeGoByItsSide();
        centresOnTwoEdgesNeedBoth();
        neighboursShareNoCentreAndMissNone();
    }

    private static void sideTests() {
        sidesHide();
        frontAndBehindShowTheSame();
    }

    private static void placeTests() {
        verticesBehindTheEyeCount();
        depthAtAVertexIsItsOwn();
        depthIsCutDown();
    }

    private static void textureTests() {
        modesChooseTexels();
        placesAreCutDown();
        modeZeroWrapsAround();
        modeOneStopsAtItsEnds();
        perspectiveBendsTheTexture();
    }

    private static void dueNothing(String what, int... xyz) {
        for (int sides = 0; sides < 3; sides++) {
            ExactScene scene = new ExactScene();
            scene.row(3, 0, 0, 1, 0);
            Scenes.tell(scene, xyz[0], xyz[1], xyz[2]);
            Scenes.tell(scene, xyz[3], xyz[4], xyz[5]);
            scene.use(0, 0, sides);
            Scenes.tell(scene, xyz[6], xyz[7], xyz[8]);
            CHECKS.due("D of " + what, 0L, () -> scene.triangle(0, 0));
            CHECKS.due("draw of " + what, 0, () -> scene.draw(0));
        }
    }

    /** "If D is 0, it covers nothing": along a row and a column of centres, and along a slope. */
    private static void linesCoverNothing() {
        dueNothing("a row", -15, 4, 16, 1, 4, 16, 15, 4, 16);
        dueNothing("a column", 1, -15, 16, 1, 0, 16, 1, 15, 16);
        dueNothing("a slope", -15, -12, 16, -5, -4, 16, 15, 12, 16);
    }

    /** The same. */
    private static void pointsCoverNothing() {
        dueNothing("a point", 1, 4, 16, 1, 4, 16, 1, 4, 16);
        dueNothing("two points", -7, -4, 16, 1, 4, 16, 1, 4, 16);
    }

    /** The same. */
    private static void zerosCoverNothing() {
        dueNothing("a vertex of zeros", 0, 0, 0, 15, -15, 16, -15, -15, 16);
        ExactScene scene = new ExactScene();
        Scenes.set(scene, new int[16]);
        Scenes.tellFull(scene, 1, 2, 3);
        CHECKS.due("draw under a matrix of zeros", 0, () -> scene.draw(0));
    }

    /** The same: here E0, E1 and E2 are each 24 * (2 * i + 1), or the negative of it. */
    private static void zeroDeterminantCoversNothingThoughAllElseIsAboveZero() {
        dueNothing("places that add up to 0", -1, 1, 1, -1, -1, 1, 2, 0, -2);
        dueNothing("the same turned round", -1, -1, 1, -1, 1, 1, 2, 0, -2);
    }

    /** A triangle on the fine grid, told from the front and from behind: both cover the same. */
    private static void dueLines(String what, int[] xy, String... lines) {
        for (int n = 0; n < 2; n++) {
            ExactScene scene = new ExactScene();
            Scenes.setFineGrid(scene);
            Scenes.tell(scene, xy[0], xy[1], 0);
            Scenes.tell(scene, xy[2 + 2 * n], xy[3 + 2 * n], 0);
            Scenes.tell(scene, xy[4 - 2 * n], xy[5 - 2 * n], 0);
            scene.draw(0);
            Scenes.dueOwners(CHECKS, what + (n == 0 ? ", told" : ", told the other way round"), scene, lines);
        }
    }

    private static String[] sameLines(String line) {
        String[] lines = new String[12];
        java.util.Arrays.fill(lines, line);
        return lines;
    }

    /** "Each E is above 0, or is 0 and a is above 0": the edge runs through the centres with i = 4. */
    private static void centresOnALeftEdgeAreCovered() {
        dueLines("a left edge", new int[] {-7, -31, 31, 0, -7, 31}, sameLines("....000000000000"));
    }

    /** The same: here a is below 0. */
    private static void centresOnARightEdgeAreNot() {
        dueLines("a right edge", new int[] {-7, -31, -31, 0, -7, 31}, sameLines("0000............"));
    }

    /** "Or a is 0 and b above 0": the edge runs through the centres with j = 4. */
    private static void centresOnAnUpperEdgeAreCovered() {
        String[] lines = sameLines("0000000000000000");
        java.util.Arrays.fill(lines, 0, 4, "................");
        dueLines("an upper edge", new int[] {-31, -1, 31, -1, 0, 31}, lines);
    }

    /** The same: here a is 0 and b is below 0. */
    private static void centresOnALowerEdgeAreNot() {
        String[] lines = sameLines("................");
        java.util.Arrays.fill(lines, 0, 4, "0000000000000000");
        dueLines("a lower edge", new int[] {-31, -1, 31, -1, 0, -31}, lines);
    }

    /** With a other than 0 its sign decides alone, whatever b is. */
    private static void centresOnASlantedEdgeGoByItsSide() {
        dueSlantedEdge("a above 0, b below 0", true, new int[] {-30, -6, 30, 6, 31, -31}, 1, 4, 7, 10);
        dueSlantedEdge("a below 0, b above 0", false, new int[] {-30, -6, 30, 6, -31, 31}, 1, 4, 7, 10);
        dueSlantedEdge("a and b above 0", true, new int[] {-30, 6, 30, -6, 31, 31}, 10, 7, 4, 1);
        dueSlantedEdge("a and b below 0", false, new int[] {-30, 6, 30, -6, -31, -31}, 10, 7, 4, 1);
    }

    /** The edge runs through the centres with i = 0, 5, 10, 15, whose j are told. */
    private static void dueSlantedEdge(String what, boolean toTheRight, int[] xy, int... js) {
        ExactScene scene = new ExactScene();
        Scenes.setFineGrid(scene);
        for (int n = 0; n < 3; n++) {
            Scenes.tell(scene, xy[2 * n], xy[2 * n + 1], 0);
        }
        scene.draw(0);
        for (int n = 0; n < 4; n++) {
            int i = 5 * n;
            int j = js[n];
            CHECKS.due(what + ", on the edge", toTheRight ? 0 : -1, () -> scene.owner(i, j));
            if (i > 0) {
                CHECKS.due(what + ", left of it", toTheRight ? -1 : 0, () -> scene.owner(i - 1, j));
            }
            if (i < 15) {
                CHECKS.due(what + ", right of it", toTheRight ? 0 : -1, () -> scene.owner(i + 1, j));
            }
        }
    }

    /** A vertex on the centre of (8, 4), where two of E0, E1 and E2 are 0: "each" must hold. */
    private static void centresOnTwoEdgesNeedBoth() {
        int[][] others = {{31, -1, 31, 31}, {31, 31, -31, 31}, {-31, 31, -31, -1}, {-31, -1, -31, -31},
            {-31, -31, 31, -31}, {31, -31, 31, -1}};
        int[] want = {0, -1, -1, -1, -1, -1};
        for (int n = 0; n < others.length; n++) {
            for (int first = 0; first < 3; first++) {
                ExactScene scene = new ExactScene();
                Scenes.setFineGrid(scene);
                int[][] corners = {{1, -1}, {others[n][0], others[n][1]}, {others[n][2], others[n][3]}};
                for (int k = 0; k < 3; k++) {
                    int[] corner = corners[(first + k) % 3];
                    Scenes.tell(scene, corner[0], corner[1], 0);
                }
                scene.draw(0);
                CHECKS.due("a vertex on a centre, triangle " + n, want[n], () -> scene.owner(8, 4));
            }
        }
    }

    /** Eight triangles round the centre of (8, 4): each pixel is covered by just one of them. */
    private static void neighboursShareNoCentreAndMissNone() {
        int[][] ring = {{31, -1}, {31, 31}, {1, 31}, {-31, 31}, {-31, -1}, {-31, -31}, {1, -31}, {31, -31}};
        int[] covered = new int[192];
        for (int n = 0; n < 8; n++) {
            int[] from = ring[n % 2 == 0 ? n : (n + 1) % 8];
            int[] to = ring[n % 2 == 0 ? (n + 1) % 8 : n];
            ExactScene scene = new ExactScene();
            Scenes.setFineGrid(scene);
            Scenes.tell(scene, 1, -1, 0);
            Scenes.tell(scene, from[0], from[1], 0);
            Scenes.tell(scene, to[0], to[1], 0);
            scene.draw(0);
            for (int pixel = 0; pixel < 192; pixel++) {
                covered[pixel] += scene.owner(pixel % 16, pixel / 16) == ExactScene.NONE ? 0 : 1;
            }
        }
        for (int n = 0; n < 192; n++) {
            int times = covered[n];
            CHECKS.due("how many cover (" + n % 16 + ", " + n / 16 + ")", 1, () -> times);
        }
    }

    /** "0: both, 1: triangles from the front alone, 2: those from behind alone; others cover nothing". */
    private static void sidesHide() {
        int[] wantFront = {192, 192, 0};
        int[] wantBehind = {192, 0, 192};
        for (int n = 0; n < 3; n++) {
            int sides = n;
            ExactScene front = new ExactScene();
            front.use(0, 0, sides);
            Scenes.tellFull(front, 0, 0, 0);
            CHECKS.due("sides " + sides + " from the front", wantFront[sides], () -> front.draw(0));
            ExactScene behind = new ExactScene();
            behind.use(0, 0, sides);
            Scenes.tellFullFromBehind(behind, 2, 0, 0);
            CHECKS.due("sides " + sides + " from behind", wantBehind[sides], () -> behind.draw(0));
        }
        ExactScene hidden = new ExactScene();
        hidden.use(0, 0, 1);
        Scenes.tellFullFromBehind(hidden, -9, 0, 0);
        Scenes.tellFull(hidden, 9, 0, 0);
        hidden.draw(0);
        CHECKS.due("one that covers nothing hides nothing", 1, () -> hidden.owner(3, 3));
    }

    private static ExactScene wall(boolean behind) {
        ExactScene scene = new ExactScene();
        for (int n = 0; n < 64; n++) {
            scene.texel(0, n % 8, n / 8, 3 * n + 1);
        }
        scene.use(0, 0, behind ? 2 : 1);
        scene.row(3, 0, 0, 1, 20);
        int[][] corners = {{-15, -19, 2, -30, 4}, {25, -3, 11, 40, -9}, {-6, 14, -5, 3, 60}};
        for (int n = 0; n < 3; n++) {
            int[] c = corners[behind ? 2 - n : n];
            scene.vertex(c[0], c[1], c[2], c[3], c[4]);
        }
        scene.draw(0);
        return scene;
    }

    /** "If D is less than 0, D, E0, E1 and E2 are all turned to their negatives"; each is shown by its own side. */
    private static void frontAndBehindShowTheSame() {
        ExactScene front = wall(false);
        ExactScene behind = wall(true);
        CHECKS.due("an owner from the front", 0, () -> front.owner(7, 5));
        CHECKS.due("an owner from behind", 0, () -> behind.owner(7, 5));
        for (int n = 0; n < 192; n++) {
            int i = n % 16;
            int j = n / 16;
            CHECKS.due("colour from behind", front.colour(i, j), () -> behind.colour(i, j));
            CHECKS.due("depth from behind", Checks.outcome(() -> front.depth(i, j)), () -> behind.depth(i, j));
        }
    }

    /** It shows on the far side of the edge between the other two: where 2 * i + 1 < 16 + 2 / 3 * (2 * j + 1). */
    private static void verticesBehindTheEyeCount() {
        ExactScene scene = new ExactScene();
        scene.row(3, 0, 0, 1, 0);
        Scenes.tell(scene, 0, -2, 2);
        Scenes.tell(scene, 2, 2, 2);
        Scenes.tell(scene, -2, 0, -1);
        CHECKS.due("draw with a vertex behind the eye", 144, () -> scene.draw(0));
        Scenes.dueOwners(CHECKS, "a vertex behind the eye", scene, "00000000........", "000000000.......",
                "0000000000......", "0000000000......", "00000000000.....", "000000000000....", "000000000000....",
                "0000000000000...", "00000000000000..", "00000000000000..", "000000000000000.", "0000000000000000");
    }

    /** Where E1 and E2 are 0, E0 is D / W0, so the depth is Z0 / W0, here Z0 / 16. */
    private static void depthAtAVertexIsItsOwn() {
        int[][] table = {{31, 1}, {16, 1}, {15, 0}, {1, 0}, {0, 0}, {-1, -1}, {-16, -1}, {-17, -2}, {-31, -2}};
        for (int[] pair : table) {
            ExactScene scene = new ExactScene();
            Scenes.setFineGrid(scene);
            Scenes.tell(scene, 1, -1, pair[0]);
            Scenes.tell(scene, 31, -1, 5);
            Scenes.tell(scene, 31, 31, -7);
            scene.draw(0);
            CHECKS.due("the depth at a vertex with Z " + pair[0], (long) pair[1], () -> scene.depth(8, 4));
        }
    }

    /** "Cut down to the next whole number that is not greater": below 0 too, and none that is whole. */
    private static void depthIsCutDown() {
        ExactScene scene = new ExactScene();
        Scenes.tellSlope(scene);
        scene.draw(0);
        for (int n = 0; n < 16; n++) {
            int i = n;
            CHECKS.due("depth(" + i + ", 2)", (long) i - 8, () -> scene.depth(i, 2));
        }
        for (int z = -31; z <= 31; z += 31) {
            ExactScene whole = new ExactScene();
            Scenes.tellFull(whole, z, 0, 0);
            whole.draw(0);
            long want = z;
            CHECKS.due("a whole depth", want, () -> whole.depth(9, 9));
        }
    }

    private static ExactScene countedTexels(int mode) {
        ExactScene scene = new ExactScene();
        for (int n = 0; n < 64; n++) {
            scene.texel(1, n % 8, n / 8, 10 * (n % 8) + n / 8);
        }
        scene.use(1, mode, 0);
        return scene;
    }

    /** "U and V modulo 8 (0 .. 7)", and "below 0 it is 0, if it is above 7 it is 7", for U and V alike. */
    private static void modesChooseTexels() {
        int[][] table = {{0, 0, 0}, {1, 1, 1}, {7, 7, 7}, {8, 0, 7}, {-1, 7, 0}, {-8, 0, 0}, {-9, 7, 0}, {127, 7, 7},
            {120, 0, 7}, {-127, 1, 0}, {-120, 0, 0}, {13, 5, 7}};
        for (int[] row : table) {
            for (int m = 0; m < 2; m++) {
                int line = row[1 + m];
                ExactScene scene = countedTexels(m);
                Scenes.tellFull(scene, 0, row[0], 3);
                scene.draw(0);
                CHECKS.due("mode " + m + ", U " + row[0], 10 * line + 3, () -> scene.colour(9, 9));
                scene.clear();
                Scenes.tellFull(scene, 0, 4, row[0]);
                scene.draw(0);
                CHECKS.due("mode " + m + ", V " + row[0], 40 + line, () -> scene.colour(9, 9));
            }
        }
    }

    /** Over the whole picture, with U of u + across * (2 * i + 1) / 64 and V of v + down * (2 * j + 1) / 48. */
    private static ExactScene drawnPlaces(int mode, int u, int across, int v, int down) {
        ExactScene scene = countedTexels(mode);
        scene.vertex(-1, -1, 0, u, v);
        scene.vertex(3, -1, 0, u + across, v);
        scene.vertex(-1, 3, 0, u, v + down);
        scene.draw(0);
        return scene;
    }

    private static void dueTexels(String what, ExactScene scene, String across, String down) {
        for (int n = 0; n < 16; n++) {
            int i = n;
            int want = 10 * (across.charAt(i) - '0') + down.charAt(5) - '0';
            CHECKS.due(what + ", colour(" + i + ", 5)", want, () -> scene.colour(i, 5));
        }
        for (int n = 0; n < 12; n++) {
            int j = n;
            int want = 10 * (across.charAt(5) - '0') + down.charAt(j) - '0';
            CHECKS.due(what + ", colour(5, " + j + ")", want, () -> scene.colour(5, j));
        }
    }

    /** "Both cut down to the next whole number that is not greater": -4 + (2 * i + 1) / 4, -3 + (2 * j + 1) / 4. */
    private static void placesAreCutDown() {
        dueTexels("cut down", drawnPlaces(0, -4, 16, -3, 12), "4455667700112233", "556677001122");
    }

    /** "U and V modulo 8": -7 + (2 * i + 1) is -6, -4 .. 24, and -17 + 2 * (2 * j + 1) is -15, -11 .. 29. */
    private static void modeZeroWrapsAround() {
        dueTexels("mode 0", drawnPlaces(0, -7, 64, -17, 96), "2460246024602460", "151515151515");
    }

    /** "If U (V) is below 0 it is 0, if it is above 7 it is 7": -4 + (2 * i + 1) / 2, and -2 + (2 * j + 1) / 2. */
    private static void modeOneStopsAtItsEnds() {
        dueTexels("mode 1", drawnPlaces(1, -4, 32, -2, 24), "0000012345677777", "000123456777");
        dueTexels("mode 1 by whole numbers", drawnPlaces(1, -7, 64, -9, 48), "0000246777777777", "000002467777");
    }

    /** W is z, so the right side is four times as far away as the left one. */
    private static void perspectiveBendsTheTexture() {
        ExactScene scene = new ExactScene();
        for (int s = 0; s < 8; s++) {
            scene.texel(0, s, 0, 100 + s);
        }
        scene.use(0, 1, 0);
        scene.row(3, 0, 0, 1, 0);
        scene.vertex(-1, -1, 1, 0, 0);
        scene.vertex(4, -4, 4, 8, 0);
        scene.vertex(-1, 1, 1, 0, 0);
        scene.vertex(4, -4, 4, 8, 0);
        scene.vertex(4, 4, 4, 8, 0);
        scene.vertex(-1, 1, 1, 0, 0);
        CHECKS.due("draw of a wall", 192, () -> scene.draw(0));
        for (int n = 0; n < 16; n++) {
            int i = n;
            // with t the way across in 32nds, 8 * t / (4 * (32 - t) + t)
            int t = 2 * i + 1;
            int want = 100 + 8 * t / (4 * (32 - t) + t);
            CHECKS.due("colour(" + i + ", 0)", want, () -> scene.colour(i, 0));
            CHECKS.due("colour(" + i + ", 11)", want, () -> scene.colour(i, 11));
        }
    }
}
