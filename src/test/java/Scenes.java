/** What several tests tell a scene, and how they look at it. */
final class Scenes {
    static final int WIDTH = 16;
    static final int HEIGHT = 12;

    private Scenes() { }

    static void set(ExactScene scene, int... m) {
        for (int row = 0; row < 4; row++) {
            scene.row(row, m[4 * row], m[4 * row + 1], m[4 * row + 2], m[4 * row + 3]);
        }
    }

    static void tell(ExactScene scene, int x, int y, int z) {
        scene.vertex(x, y, z, 0, 0);
    }

    /** A triangle over the whole picture, from the front, at one depth and with one U and V. */
    static void tellFull(ExactScene scene, int z, int u, int v) {
        scene.vertex(-1, -1, z, u, v);
        scene.vertex(3, -1, z, u, v);
        scene.vertex(-1, 3, z, u, v);
    }

    /** The same from behind. */
    static void tellFullFromBehind(ExactScene scene, int z, int u, int v) {
        scene.vertex(-1, -1, z, u, v);
        scene.vertex(-1, 3, z, u, v);
        scene.vertex(3, -1, z, u, v);
    }

    /** A triangle over the whole picture whose depth at (i, j) is i - 15 / 2. */
    static void tellSlope(ExactScene scene) {
        scene.vertex(-1, -1, -8, 0, 0);
        scene.vertex(3, -1, 24, 0, 0);
        scene.vertex(-1, 3, -8, 0, 0);
    }

    /** A vertex of which the matrix makes just these X, Y, Z, W, each within 48,034. */
    static void tellMade(ExactScene scene, int... made) {
        for (int row = 0; row < 4; row++) {
            int whole = Math.max(-1533, Math.min(1533, made[row] / 31));
            int a = Math.max(-511, Math.min(511, whole));
            int b = Math.max(-511, Math.min(511, whole - a));
            scene.row(row, a, b, whole - a - b, made[row] - 31 * whole);
        }
        tell(scene, 31, 31, 31);
    }

    /**
     * Makes x and y of the vertices to come such that the place (x, y) is 2 * i + 1 = 16 + x and
     * 2 * j + 1 = 12 + 3 * y: the centre of a pixel wherever x and y are odd.
     */
    static void setFineGrid(ExactScene scene) {
        scene.row(1, 0, 4, 0, 0);
        scene.row(3, 0, 0, 0, 16);
    }

    /** A line of the picture for each j: the owner's number, or a dot where there is none. */
    static void dueOwners(Checks checks, String what, ExactScene scene, String... lines) {
        for (int j = 0; j < HEIGHT; j++) {
            StringBuilder got = new StringBuilder();
            for (int i = 0; i < WIDTH; i++) {
                int owner = scene.owner(i, j);
                got.append(owner == ExactScene.NONE ? "." : String.valueOf(owner));
            }
            checks.due(what + ", owners of line " + j, lines[j], got::toString);
        }
    }
}
