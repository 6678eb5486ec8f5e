import java.math.BigInteger;
import java.util.ArrayDeque;
import java.util.ArrayList;
import java.util.Deque;
import java.util.List;

/**
 * The document once more, written out with numbers of any size and with nothing prepared: every
 * answer follows from its formula when it is asked for.
 */
final class Model {
    /** A vertex as it was told. */
    private record Corner(BigInteger[] place, BigInteger z, int u, int v) { }

    /** A whole triangle. */
    private record Whole(Corner[] corners, int texture, int mode, int sides) { }

    /** What a pixel shows. */
    private record Shown(int owner, int colour, BigInteger over, BigInteger under) { }

    private int[][] current = {{1, 0, 0, 0}, {0, 1, 0, 0}, {0, 0, 1, 0}, {0, 0, 0, 1}};
    private final Deque<int[][]> pile = new ArrayDeque<>();
    private final List<Corner> open = new ArrayList<>();
    private final List<Whole> wholes = new ArrayList<>();
    private final int[][][] texels = new int[2][8][8];
    private final Shown[][] picture = new Shown[16][12];
    private int texture;
    private int mode;
    private int sides;

    Model() {
        for (Shown[] column : picture) {
            java.util.Arrays.fill(column, new Shown(-1, 0, null, null));
        }
    }

    void row(int row, int a, int b, int c, int d) {
        int[] entries = {a, b, c, d};
        for (int entry : entries) {
            if (entry < -511 || entry > 511) {
                throw new IllegalArgumentException();
            }
        }
        if (row < 0 || row > 3) {
            throw new IllegalArgumentException();
        }
        current[row] = entries;
    }

    void move(int a, int b, int c) {
        current = product(current, new int[][] {{1, 0, 0, a}, {0, 1, 0, b}, {0, 0, 1, c}, {0, 0, 0, 1}});
    }

    void stretch(int a, int b, int c) {
        current = product(current, new int[][] {{a, 0, 0, 0}, {0, b, 0, 0}, {0, 0, c, 0}, {0, 0, 0, 1}});
    }

    void turn(int axis) {
        int[][][] turns = {
            {{1, 0, 0, 0}, {0, 0, -1, 0}, {0, 1, 0, 0}, {0, 0, 0, 1}},
            {{0, 0, 1, 0}, {0, 1, 0, 0}, {-1, 0, 0, 0}, {0, 0, 0, 1}},
            {{0, -1, 0, 0}, {1, 0, 0, 0}, {0, 0, 1, 0}, {0, 0, 0, 1}}};
        if (axis < 0 || axis > 2) {
            throw new IllegalArgumentException();
        }
        current = product(current, turns[axis]);
    }

    void join() {
        if (pile.isEmpty()) {
            throw new IllegalStateException();
        }
        current = product(pile.peek(), current);
        pile.pop();
    }

    void push() {
        if (pile.size() == 4) {
            throw new IllegalStateException();
        }
        int[][] copy = new int[4][];
        for (int n = 0; n < 4; n++) {
            copy[n] = current[n].clone();
        }
        pile.push(copy);
    }

    void pop() {
        if (pile.isEmpty()) {
            throw new IllegalStateException();
        }
        current = pile.pop();
    }

    int entry(int row, int column) {
        if (row < 0 || row > 3 || column < 0 || column > 3) {
            throw new IndexOutOfBoundsException();
        }
        return current[row][column];
    }

    int vertex(int x, int y, int z, int u, int v) {
        if (Math.abs((long) x) > 31 || Math.abs((long) y) > 31 || Math.abs((long) z) > 31
                || Math.abs((long) u) > 127 || Math.abs((long) v) > 127) {
            throw new IllegalArgumentException();
        }
        if (wholes.size() == 20) {
            throw new IllegalStateException();
        }
        long[] made = new long[4];
        for (int n = 0; n < 4; n++) {
            made[n] = (long) current[n][0] * x + (long) current[n][1] * y + (long) current[n][2] * z + current[n][3];
        }
        BigInteger[] place = {big(16 * (made[0] + made[3])), big(12 * (made[1] + made[3])), big(made[3])};
        open.add(new Corner(place, big(made[2]), u, v));
        if (open.size() == 3) {
            wholes.add(new Whole(open.toArray(new Corner[0]), texture, mode, sides));
            open.clear();
        }
        return wholes.size();
    }

    boolean use(int newTexture, int newMode, int newSides) {
        if (newTexture < 0 || newTexture > 1 || newMode < 0 || newMode > 1 || newSides < 0 || newSides > 2) {
            return false;
        }
        texture = newTexture;
        mode = newMode;
        sides = newSides;
        return true;
    }

    int texel(int which, int s, int t, int x) {
        if (which < 0 || which > 1 || s < 0 || s > 7 || t < 0 || t > 7) {
            throw new IndexOutOfBoundsException();
        }
        int before = texels[which][s][t];
        texels[which][s][t] = Math.floorMod(x, 256);
        return before;
    }

    int clear() {
        int before = wholes.size();
        wholes.clear();
        open.clear();
        return before;
    }

    int draw(int background) {
        int owned = 0;
        for (int i = 0; i < 16; i++) {
            for (int j = 0; j < 12; j++) {
                picture[i][j] = shownAt(i, j, Math.floorMod(background, 256));
                owned += picture[i][j].owner == -1 ? 0 : 1;
            }
        }
        return owned;
    }

    int colour(int i, int j) {
        return pixel(i, j).colour;
    }

    int owner(int i, int j) {
        return pixel(i, j).owner;
    }

    int compare(int i, int j, int k, int m) {
        Shown first = pixel(i, j);
        Shown second = pixel(k, m);
        if (first.owner == -1 || second.owner == -1) {
            throw new IllegalStateException();
        }
        return first.over.multiply(second.under).compareTo(second.over.multiply(first.under));
    }

    long depth(int i, int j) {
        Shown shown = pixel(i, j);
        if (shown.owner == -1) {
            throw new IllegalStateException();
        }
        return floor(shown.over, shown.under).longValueExact();
    }

    long triangle(int k, int which) {
        if (k < 0 || k >= wholes.size() || which < 0 || which > 12) {
            throw new IndexOutOfBoundsException();
        }
        Corner[] corners = wholes.get(k).corners;
        if (which == 0) {
            return det(corners[0].place, corners[1].place, corners[2].place).longValueExact();
        }
        Corner corner = corners[(which - 1) / 4];
        int n = (which - 1) % 4;
        return (n == 3 ? corner.z : corner.place[n]).longValueExact();
    }

    private Shown pixel(int i, int j) {
        if (i < 0 || i > 15 || j < 0 || j > 11) {
            throw new IndexOutOfBoundsException();
        }
        return picture[i][j];
    }

    private Shown shownAt(int i, int j, int background) {
        Shown best = new Shown(-1, background, null, null);
        for (int k = 0; k < wholes.size(); k++) {
            Shown next = shownOf(k, i, j);
            if (next != null && (best.owner == -1
                    || next.over.multiply(best.under).compareTo(best.over.multiply(next.under)) < 0)) {
                best = next;
            }
        }
        return best;
    }

    /** What triangle k shows there; null where it covers nothing. */
    private Shown shownOf(int k, int i, int j) {
        Whole whole = wholes.get(k);
        Corner[] c = whole.corners;
        BigInteger d = det(c[0].place, c[1].place, c[2].place);
        boolean front = d.signum() > 0;
        if (d.signum() == 0 || (whole.sides == 1 && !front) || (whole.sides == 2 && front)) {
            return null;
        }
        BigInteger sign = big(d.signum());
        BigInteger[] centre = {big(2 * i + 1), big(2 * j + 1), big(1)};
        BigInteger over = big(0);
        BigInteger sum = big(0);
        BigInteger sumU = big(0);
        BigInteger sumV = big(0);
        for (int n = 0; n < 3; n++) {
            BigInteger e = replaced(c, n, centre).multiply(sign);
            int a = replaced(c, n, new BigInteger[] {big(1), big(0), big(0)}).multiply(sign).signum();
            int b = replaced(c, n, new BigInteger[] {big(0), big(1), big(0)}).multiply(sign).signum();
            boolean in = e.signum() > 0 || (e.signum() == 0 && (a > 0 || (a == 0 && b > 0)));
            if (!in) {
                return null;
            }
            over = over.add(e.multiply(c[n].z));
            sum = sum.add(e);
            sumU = sumU.add(e.multiply(big(c[n].u)));
            sumV = sumV.add(e.multiply(big(c[n].v)));
        }
        int s = texelLine(whole.mode, floor(sumU, sum));
        int t = texelLine(whole.mode, floor(sumV, sum));
        return new Shown(k, texels[whole.texture][s][t], over, d.abs());
    }

    private static int texelLine(int mode, BigInteger place) {
        if (mode == 0) {
            return place.mod(big(8)).intValueExact();
        }
        return place.signum() < 0 ? 0 : place.min(big(7)).intValueExact();
    }

    private static BigInteger replaced(Corner[] corners, int n, BigInteger[] by) {
        BigInteger[][] rows = {corners[0].place, corners[1].place, corners[2].place};
        rows[n] = by;
        return det(rows[0], rows[1], rows[2]);
    }

    private static BigInteger det(BigInteger[] p, BigInteger[] q, BigInteger[] r) {
        return p[0].multiply(q[1]).multiply(r[2]).add(p[1].multiply(q[2]).multiply(r[0]))
                .add(p[2].multiply(q[0]).multiply(r[1])).subtract(p[2].multiply(q[1]).multiply(r[0]))
                .subtract(p[1].multiply(q[0]).multiply(r[2])).subtract(p[0].multiply(q[2]).multiply(r[1]));
    }

    private static BigInteger floor(BigInteger over, BigInteger under) {
        BigInteger[] parts = over.divideAndRemainder(under);
        return parts[1].signum() * under.signum() < 0 ? parts[0].subtract(BigInteger.ONE) : parts[0];
    }

    private static int[][] product(int[][] left, int[][] right) {
        int[][] made = new int[4][4];
        for (int row = 0; row < 4; row++) {
            for (int column = 0; column < 4; column++) {
                BigInteger sum = big(0);
                for (int n = 0; n < 4; n++) {
                    sum = sum.add(big(left[row][n]).multiply(big(right[n][column])));
                }
                if (sum.abs().compareTo(big(511)) > 0) {
                    throw new ArithmeticException();
                }
                made[row][column] = sum.intValueExact();
            }
        }
        return made;
    }

    private static BigInteger big(long x) {
        return BigInteger.valueOf(x);
    }
}
