/**
 * Draws triangles with textures into a small picture, in perspective and without any rounding.
 *
 * <p>Every number fits a long with room to spare: X, Y, Z and W are within 48,034,
 * so D is within 2^59, each E within 2^44, and the upper part of a depth within 2^61. Two depths
 * are compared by their products, which are wider: see {@link Picture#compareQuotients}.
 */
public final class ExactScene {
    public static final int NONE = -1;

    private static final int MOST_TRIANGLES = 20;
    private static final int CORNERS = 3;
    private static final int FARTHEST_PLACE = 31;
    private static final int FARTHEST_TEXTURE_PLACE = 127;
    private static final int LOWEST_EIGHT_BITS = 255;

    private final Matrices matrices = new Matrices();
    private final Textures textures = new Textures();
    private final Picture picture = new Picture();
    private final Triangle[] triangles = new Triangle[MOST_TRIANGLES];
    private int triangleCount;
    private int cornersTold;
    private int textureInUse;
    private int modeInUse;
    private int sidesInUse;

    public ExactScene() {
        for (int k = 0; k < MOST_TRIANGLES; k++) {
            triangles[k] = new Triangle();
        }
    }

    public void row(int row, int a, int b, int c, int d) throws IllegalArgumentException {
        if (!Matrices.isLine(row)) {
            throw new IllegalArgumentException("there is no such row");
        }
        if (!Matrices.isEntry(a) || !Matrices.isEntry(b) || !Matrices.isEntry(c) || !Matrices.isEntry(d)) {
            throw new IllegalArgumentException("an entry is not -511 .. 511");
        }
        matrices.setRow(row, a, b, c, d);
    }

    public void move(int a, int b, int c) throws ArithmeticException {
        if (!matrices.multiplyByMove(a, b, c)) {
            throw new ArithmeticException("an entry would not be -511 .. 511");
        }
    }

    public void stretch(int a, int b, int c) throws ArithmeticException {
        if (!matrices.multiplyByStretch(a, b, c)) {
            throw new ArithmeticException("an entry would not be -511 .. 511");
        }
    }

    public void turn(int axis) throws IllegalArgumentException {
        if (!isWithin(axis, 0, 2)) {
            throw new IllegalArgumentException("axis is not 0 .. 2");
        }
        matrices.quarterTurn((axis + 1) % 3, (axis + 2) % 3);
    }

    public void join() throws IllegalStateException, ArithmeticException {
        if (matrices.isPileEmpty()) {
            throw new IllegalStateException("the pile is empty");
        }
        if (!matrices.multiplyLatestByCurrent()) {
            throw new ArithmeticException("an entry would not be -511 .. 511");
        }
    }

    public void push() throws IllegalStateException {
        if (matrices.isPileFull()) {
            throw new IllegalStateException("there are four on the pile");
        }
        matrices.save();
    }

    public void pop() throws IllegalStateException {
        if (matrices.isPileEmpty()) {
            throw new IllegalStateException("the pile is empty");
        }
        matrices.restore();
    }

    public int entry(int row, int column) throws IndexOutOfBoundsException {
        if (!Matrices.isLine(row) || !Matrices.isLine(column)) {
            throw new IndexOutOfBoundsException("there is no such entry");
        }
        return matrices.entryAt(row, column);
    }

    public int vertex(int x, int y, int z, int u, int v) throws IllegalArgumentException, IllegalStateException {
        if (!isPlace(x) || !isPlace(y) || !isPlace(z)) {
            throw new IllegalArgumentException("x, y or z is not -31 .. 31");
        }
        if (!isTexturePlace(u) || !isTexturePlace(v)) {
            throw new IllegalArgumentException("u or v is not -127 .. 127");
        }
        if (triangleCount >= MOST_TRIANGLES) {
            throw new IllegalStateException("there are 20 triangles");
        }
        addCorner(x, y, z, u, v);
        return triangleCount;
    }

    public boolean use(int texture, int mode, int sides) {
        if (!Textures.isTexture(texture) || !isWithin(mode, Textures.REPEAT, Textures.CLAMP)
                || !isWithin(sides, Triangle.BOTH_SIDES, Triangle.BEHIND)) {
            return false;
        }
        textureInUse = texture;
        modeInUse = mode;
        sidesInUse = sides;
        return true;
    }

    public int texel(int texture, int s, int t, int x) throws IndexOutOfBoundsException {
        if (!Textures.isTexture(texture) || !Textures.isLine(s) || !Textures.isLine(t)) {
            throw new IndexOutOfBoundsException("there is no such texel");
        }
        return textures.exchange(Textures.indexOf(texture, s, t), x & LOWEST_EIGHT_BITS);
    }

    public int clear() {
        int before = triangleCount;
        triangleCount = 0;
        cornersTold = 0;
        return before;
    }

    public int draw(int background) {
        picture.wipe(background & LOWEST_EIGHT_BITS);
        for (int k = 0; k < triangleCount; k++) {
            if (triangles[k].isShown()) {
                picture.offerTriangle(k, triangles[k]);
            }
        }
        return paintOwnedPixels();
    }

    public int colour(int i, int j) throws IndexOutOfBoundsException {
        if (!Picture.isPixel(i, j)) {
            throw new IndexOutOfBoundsException("there is no such pixel");
        }
        return picture.colours[Picture.indexOf(i, j)];
    }

    public int owner(int i, int j) throws IndexOutOfBoundsException {
        if (!Picture.isPixel(i, j)) {
            throw new IndexOutOfBoundsException("there is no such pixel");
        }
        return picture.owners[Picture.indexOf(i, j)];
    }

    public int compare(int i, int j, int k, int m) throws IndexOutOfBoundsException, IllegalStateException {
        if (!Picture.isPixel(i, j) || !Picture.isPixel(k, m)) {
            throw new IndexOutOfBoundsException("there is no such pixel");
        }
        int first = Picture.indexOf(i, j);
        int second = Picture.indexOf(k, m);
        if (!picture.isOwned(first) || !picture.isOwned(second)) {
            throw new IllegalStateException("a pixel had no owner");
        }
        return picture.compareDepths(first, second);
    }

    public long depth(int i, int j) throws IndexOutOfBoundsException, IllegalStateException {
        if (!Picture.isPixel(i, j)) {
            throw new IndexOutOfBoundsException("there is no such pixel");
        }
        int pixel = Picture.indexOf(i, j);
        if (!picture.isOwned(pixel)) {
            throw new IllegalStateException("the pixel had no owner");
        }
        return picture.wholeDepth(pixel);
    }

    public long triangle(int k, int which) throws IndexOutOfBoundsException {
        if (!isWithin(k, 0, triangleCount - 1) || !isWithin(which, 0, Triangle.NUMBERS - 1)) {
            throw new IndexOutOfBoundsException("there is no such number of a triangle");
        }
        return triangles[k].numberAt(which);
    }

    private void addCorner(int x, int y, int z, int u, int v) {
        Triangle open = triangles[triangleCount];
        int w = matrices.rowTimes(3, x, y, z);
        open.setPlace(cornersTold, 16 * (matrices.rowTimes(0, x, y, z) + w),
                12 * (matrices.rowTimes(1, x, y, z) + w), w);
        open.setRest(cornersTold, matrices.rowTimes(2, x, y, z), u, v);
        cornersTold++;
        if (cornersTold == CORNERS) {
            open.complete(textureInUse, modeInUse, sidesInUse);
            triangleCount++;
            cornersTold = 0;
        }
    }

    private int paintOwnedPixels() {
        int owned = 0;
        for (int j = 0; j < Picture.HEIGHT; j++) {
            for (int i = 0; i < Picture.WIDTH; i++) {
                int pixel = Picture.indexOf(i, j);
                if (picture.isOwned(pixel)) {
                    picture.colours[pixel] = textureColour(triangles[picture.owners[pixel]], i, j);
                    owned++;
                }
            }
        }
        return owned;
    }

    private int textureColour(Triangle shown, int i, int j) {
        int s = Textures.wrap(shown.mode, shown.textureU(i, j));
        int t = Textures.wrap(shown.mode, shown.textureV(i, j));
        return textures.texels[Textures.indexOf(shown.texture, s, t)];
    }

    private static boolean isPlace(int x) {
        return isWithin(x, -FARTHEST_PLACE, FARTHEST_PLACE);
    }

    private static boolean isTexturePlace(int u) {
        return isWithin(u, -FARTHEST_TEXTURE_PLACE, FARTHEST_TEXTURE_PLACE);
    }

    private static boolean isWithin(int x, int least, int most) {
        return x >= least && x <= most;
    }

    /** The next whole number that is not greater; every divisor here is above 0. */
    private static long cutDown(long over, long under) {
        return under > 0 ? Math.floorDiv(over, under) : 0;
    }

    /** The current matrix and the pile of saved ones, each written row by row. */
    private static final class Matrices {
        private static final int SIZE = 4;
        private static final int ENTRIES = SIZE * SIZE;
        private static final int MOST_SAVED = 4;
        private static final int GREATEST_ENTRY = 511;

        private final int[] current = new int[ENTRIES];
        private final int[] pile = new int[MOST_SAVED * ENTRIES];
        private final int[] factor = new int[ENTRIES];
        private final int[] product = new int[ENTRIES];
        private int saved;

        Matrices() {
            for (int k = 0; k < SIZE; k++) {
                current[k * SIZE + k] = 1;
            }
        }

        static boolean isLine(int row) {
            return isWithin(row, 0, SIZE - 1);
        }

        static boolean isEntry(long value) {
            return value >= -GREATEST_ENTRY && value <= GREATEST_ENTRY;
        }

        boolean isPileEmpty() {
            return saved == 0;
        }

        boolean isPileFull() {
            return saved == MOST_SAVED;
        }

        int entryAt(int row, int column) {
            return current[row * SIZE + column];
        }

        void setRow(int row, int a, int b, int c, int d) {
            current[row * SIZE] = a;
            current[row * SIZE + 1] = b;
            current[row * SIZE + 2] = c;
            current[row * SIZE + 3] = d;
        }

        int rowTimes(int row, int x, int y, int z) {
            return entryAt(row, 0) * x + entryAt(row, 1) * y + entryAt(row, 2) * z + entryAt(row, 3);
        }

        boolean multiplyByMove(int a, int b, int c) {
            setDiagonalFactor(1, 1, 1);
            factor[3] = a;
            factor[SIZE + 3] = b;
            factor[2 * SIZE + 3] = c;
            return multiply(current, 0, factor);
        }

        boolean multiplyByStretch(int a, int b, int c) {
            setDiagonalFactor(a, b, c);
            return multiply(current, 0, factor);
        }

        boolean multiplyLatestByCurrent() {
            boolean fits = multiply(pile, (saved - 1) * ENTRIES, current);
            if (fits) {
                saved--;
            }
            return fits;
        }

        void quarterTurn(int k, int m) {
            for (int row = 0; row < SIZE; row++) {
                int turned = current[row * SIZE + k];
                current[row * SIZE + k] = current[row * SIZE + m];
                current[row * SIZE + m] = -turned;
            }
        }

        void save() {
            System.arraycopy(current, 0, pile, saved * ENTRIES, ENTRIES);
            saved++;
        }

        void restore() {
            saved--;
            System.arraycopy(pile, saved * ENTRIES, current, 0, ENTRIES);
        }

        private void setDiagonalFactor(int a, int b, int c) {
            for (int n = 0; n < ENTRIES; n++) {
                factor[n] = 0;
            }
            factor[0] = a;
            factor[SIZE + 1] = b;
            factor[2 * SIZE + 2] = c;
            factor[3 * SIZE + 3] = 1;
        }

        /** The product goes to a place of its own first, so that a refusal leaves the current matrix as it was. */
        private boolean multiply(int[] left, int leftStart, int[] right) {
            for (int row = 0; row < SIZE; row++) {
                for (int column = 0; column < SIZE; column++) {
                    long sum = 0;
                    for (int n = 0; n < SIZE; n++) {
                        sum += (long) left[leftStart + row * SIZE + n] * right[n * SIZE + column];
                    }
                    if (!isEntry(sum)) {
                        return false;
                    }
                    product[row * SIZE + column] = (int) sum;
                }
            }
            System.arraycopy(product, 0, current, 0, ENTRIES);
            return true;
        }
    }

    /** The two textures. */
    private static final class Textures {
        static final int REPEAT = 0;
        static final int CLAMP = 1;
        private static final int COUNT = 2;
        private static final int SIZE = 8;

        private final int[] texels = new int[COUNT * SIZE * SIZE];

        static boolean isTexture(int texture) {
            return isWithin(texture, 0, COUNT - 1);
        }

        static boolean isLine(int s) {
            return isWithin(s, 0, SIZE - 1);
        }

        static int indexOf(int texture, int s, int t) {
            return (texture * SIZE + t) * SIZE + s;
        }

        static int wrap(int mode, long place) {
            if (mode == REPEAT) {
                return (int) Math.floorMod(place, (long) SIZE);
            }
            return (int) Math.max(0L, Math.min(place, SIZE - 1L));
        }

        int exchange(int index, int value) {
            int before = texels[index];
            texels[index] = value;
            return before;
        }
    }

    /** A triangle, or its vertices so far. */
    private static final class Triangle {
        static final int BOTH_SIDES = 0;
        static final int FRONT = 1;
        static final int BEHIND = 2;
        static final int NUMBERS = 13;
        private static final int NUMBERS_OF_CORNER = 4;

        /** D, then P, Q, W, Z of each corner: as triangle() counts them. D keeps its sign here. */
        private final long[] numbers = new long[NUMBERS];
        private final int[] u = new int[CORNERS];
        private final int[] v = new int[CORNERS];
        /** The a, b and e of E0, E1, E2, turned already where the triangle is one from behind. */
        private final long[] across = new long[CORNERS];
        private final long[] down = new long[CORNERS];
        private final long[] fixed = new long[CORNERS];
        private long size;
        private int texture;
        private int mode;
        private int sides;

        void setPlace(int corner, int p, int q, int w) {
            numbers[corner * NUMBERS_OF_CORNER + 1] = p;
            numbers[corner * NUMBERS_OF_CORNER + 2] = q;
            numbers[corner * NUMBERS_OF_CORNER + 3] = w;
        }

        void setRest(int corner, int z, int cornerU, int cornerV) {
            numbers[corner * NUMBERS_OF_CORNER + 4] = z;
            u[corner] = cornerU;
            v[corner] = cornerV;
        }

        void complete(int ownTexture, int ownMode, int ownSides) {
            texture = ownTexture;
            mode = ownMode;
            sides = ownSides;
            for (int n = 0; n < CORNERS; n++) {
                setEdge(n, (n + 1) % CORNERS, (n + 2) % CORNERS);
            }
            numbers[0] = placeP(0) * across[0] + placeQ(0) * down[0] + placeW(0) * fixed[0];
            size = numbers[0];
            if (size < 0) {
                turnToNegatives();
            }
        }

        boolean isShown() {
            if (size == 0) {
                return false;
            }
            return sides == BOTH_SIDES || sides == (numbers[0] > 0 ? FRONT : BEHIND);
        }

        boolean covers(int i, int j) {
            for (int n = 0; n < CORNERS; n++) {
                long weight = weightAt(n, i, j);
                if (weight < 0 || (weight == 0 && !ownsItsEdge(n))) {
                    return false;
                }
            }
            return true;
        }

        /** The depth is this over size. */
        long depthOver(int i, int j) {
            long sum = 0;
            for (int n = 0; n < CORNERS; n++) {
                sum += weightAt(n, i, j) * numbers[n * NUMBERS_OF_CORNER + 4];
            }
            return sum;
        }

        long textureU(int i, int j) {
            return weigh(u, i, j);
        }

        long textureV(int i, int j) {
            return weigh(v, i, j);
        }

        long numberAt(int which) {
            return numbers[which];
        }

        private long weigh(int[] values, int i, int j) {
            long sum = 0;
            long weights = 0;
            for (int n = 0; n < CORNERS; n++) {
                long weight = weightAt(n, i, j);
                sum += weight * values[n];
                weights += weight;
            }
            return cutDown(sum, weights);
        }

        /** E0, E1 or E2 at the centre of a pixel. */
        private long weightAt(int n, int i, int j) {
            return across[n] * (2 * i + 1) + down[n] * (2 * j + 1) + fixed[n];
        }

        /** Of two triangles that share an edge, just one has the centres on it. */
        private boolean ownsItsEdge(int n) {
            return across[n] > 0 || (across[n] == 0 && down[n] > 0);
        }

        private void setEdge(int n, int from, int to) {
            across[n] = placeQ(from) * placeW(to) - placeW(from) * placeQ(to);
            down[n] = placeW(from) * placeP(to) - placeP(from) * placeW(to);
            fixed[n] = placeP(from) * placeQ(to) - placeQ(from) * placeP(to);
        }

        private void turnToNegatives() {
            size = -size;
            for (int n = 0; n < CORNERS; n++) {
                across[n] = -across[n];
                down[n] = -down[n];
                fixed[n] = -fixed[n];
            }
        }

        private long placeP(int corner) {
            return numbers[corner * NUMBERS_OF_CORNER + 1];
        }

        private long placeQ(int corner) {
            return numbers[corner * NUMBERS_OF_CORNER + 2];
        }

        private long placeW(int corner) {
            return numbers[corner * NUMBERS_OF_CORNER + 3];
        }
    }

    /** What is drawn. It keeps the depths too, as the triangles may be gone when they are asked for. */
    private static final class Picture {
        static final int WIDTH = 16;
        static final int HEIGHT = 12;
        private static final int PIXELS = WIDTH * HEIGHT;
        private static final int HALF = 30;
        private static final long LOWER_HALF = (1L << HALF) - 1;

        private final int[] colours = new int[PIXELS];
        private final int[] owners = new int[PIXELS];
        private final long[] depthOvers = new long[PIXELS];
        private final long[] depthUnders = new long[PIXELS];

        Picture() {
            wipe(0);
        }

        static boolean isPixel(int i, int j) {
            return isWithin(i, 0, WIDTH - 1) && isWithin(j, 0, HEIGHT - 1);
        }

        static int indexOf(int i, int j) {
            return j * WIDTH + i;
        }

        boolean isOwned(int pixel) {
            return owners[pixel] != NONE;
        }

        void wipe(int background) {
            for (int pixel = 0; pixel < PIXELS; pixel++) {
                colours[pixel] = background;
                owners[pixel] = NONE;
            }
        }

        void offerTriangle(int number, Triangle offered) {
            for (int j = 0; j < HEIGHT; j++) {
                for (int i = 0; i < WIDTH; i++) {
                    if (offered.covers(i, j)) {
                        offerPixel(indexOf(i, j), number, offered.depthOver(i, j), offered.size);
                    }
                }
            }
        }

        int compareDepths(int first, int second) {
            return compareQuotients(depthOvers[first], depthUnders[first], depthOvers[second], depthUnders[second]);
        }

        long wholeDepth(int pixel) {
            return cutDown(depthOvers[pixel], depthUnders[pixel]);
        }

        /** Triangles come in their order, so one of equal depth comes too late. */
        private void offerPixel(int pixel, int number, long over, long under) {
            if (!isOwned(pixel) || compareQuotients(over, under, depthOvers[pixel], depthUnders[pixel]) < 0) {
                owners[pixel] = number;
                depthOvers[pixel] = over;
                depthUnders[pixel] = under;
            }
        }

        /**
         * The sign of a / b - c / d, b and d being above 0: that of a * d - c * b, which does not
         * fit a long, so it is added up in parts of 2^60, 2^30 and 1. With a and c within 2^61, and
         * b and d within 2^59, no part leaves the long.
         */
        private static int compareQuotients(long a, long b, long c, long d) {
            long low = (a & LOWER_HALF) * (d & LOWER_HALF) - (c & LOWER_HALF) * (b & LOWER_HALF);
            long middle = (a >> HALF) * (d & LOWER_HALF) + (a & LOWER_HALF) * (d >> HALF)
                    - (c >> HALF) * (b & LOWER_HALF) - (c & LOWER_HALF) * (b >> HALF) + (low >> HALF);
            long high = (a >> HALF) * (d >> HALF) - (c >> HALF) * (b >> HALF) + (middle >> HALF);
            if (high != 0) {
                return high < 0 ? -1 : 1;
            }
            return (middle & LOWER_HALF) == 0 && (low & LOWER_HALF) == 0 ? 0 : 1;
        }
    }
}
