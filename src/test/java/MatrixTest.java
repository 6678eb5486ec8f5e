/** Promises 2 to 9, and what the terms say of matrices; each test stands under the words that it holds. */
public final class MatrixTest {
    private static final Checks CHECKS = new Checks();
    private static final int[] IDENTITY = {1, 0, 0, 0, 0, 1, 0, 0, 0, 0, 1, 0, 0, 0, 0, 1};
    private static final int[] COUNTING = {1, 2, 3, 4, 5, 6, 7, 8, 9, 10, 11, 12, 13, 14, 15, 16};
    private static final int[] NO_LINE = {-1, 4, -4, 16, Integer.MIN_VALUE, Integer.MAX_VALUE};
    private static final int[] NO_ENTRY = {512, -512, 1023, 65536, Integer.MIN_VALUE, Integer.MAX_VALUE};
    private static final int[] SIGNS = {1, -1};

    public static void main(String[] args) {
        firstMatrix();
        rowTests();
        moveTests();
        stretchTests();
        turnTests();
        joinTests();
        pushTests();
        popTests();
        entryTests();
        CHECKS.end("MatrixTest");
    }

    private static void rowTests() {
        rowSetsOneRow();
        rowTakesTheLimits();
        rowRefusesWhatIsNoRow();
        rowRefusesWhatIsNoEntry();
    }

    private static void moveTests() {
        moveMultipliesOnTheRight();
        moveReachesTheLimits();
        moveRefusesWhatIsNoEntry();
        moveRefusesWhatWouldWrapAround();
        moveLooksAtTheWholeSum();
    }

    private static void stretchTests() {
        stretchMultipliesColumns();
        stretchReachesTheLimits();
        stretchRefusesWhatIsNoEntry();
        stretchRefusesWhatWouldWrapAround();
        stretchOfZerosIsNeverRefused();
    }

    private static void turnTests() {
        turnChangesColumns();
        turnKeepsToTheLimits();
        turnRefusesWhatIsNoAxis();
    }

    private static void joinTests() {
        joinMultipliesOnTheLeft();
        joinTakesTheLatestFromThePile();
        joinMakesRoomOnThePile();
        joinReachesTheLimits();
        joinRefusesAnEmptyPile();
        joinRefusesWhatIsNoEntry();
        joinLooksAtTheWholeSum();
        refusedJoinLeavesThePile();
    }

    private static void pushTests() {
        pushKeepsACopy();
        pushRefusesTheFifth();
        refusedPushChangesNothing();
    }

    private static void popTests() {
        popTakesTheLatest();
        popRefusesAnEmptyPile();
    }

    private static void entryTests() {
        entryTellsAll();
        entryRefusesWhatIsNone();
    }

    private static ExactScene sceneWith(int... entries) {
        ExactScene scene = new ExactScene();
        Scenes.set(scene, entries);
        return scene;
    }

    private static void dueMatrix(String what, ExactScene scene, int... want) {
        for (int n = 0; n < 16; n++) {
            int row = n / 4;
            int column = n % 4;
            CHECKS.due(what + ", entry(" + row + ", " + column + ")", want[n], () -> scene.entry(row, column));
        }
    }

    /** All 0 but for the one entry. */
    private static int[] single(int row, int column, int value) {
        int[] entries = new int[16];
        entries[4 * row + column] = value;
        return entries;
    }

    /** "A CURRENT one, at first 1 on the diagonal and 0 elsewhere, and a pile" that is empty. */
    private static void firstMatrix() {
        ExactScene scene = new ExactScene();
        dueMatrix("a new object", scene, IDENTITY);
        CHECKS.dueThrow("pop of a new object", IllegalStateException.class, scene::pop);
    }

    private static void rowSetsOneRow() {
        for (int n = 0; n < 4; n++) {
            ExactScene scene = sceneWith(COUNTING);
            scene.row(n, -9, 8, 0, 77);
            int[] want = COUNTING.clone();
            System.arraycopy(new int[] {-9, 8, 0, 77}, 0, want, 4 * n, 4);
            dueMatrix("row(" + n + ", ..)", scene, want);
        }
    }

    /** "An entry is not -511 .. 511": just these are taken. */
    private static void rowTakesTheLimits() {
        for (int row = 0; row < 4; row++) {
            int n = row;
            ExactScene scene = new ExactScene();
            CHECKS.duePass("row of 511", () -> scene.row(n, 511, -511, 511, -511));
            CHECKS.due("entry of 511", 511, () -> scene.entry(n, 0));
            CHECKS.due("entry of -511", -511, () -> scene.entry(n, 3));
            CHECKS.duePass("row of -511", () -> scene.row(n, -511, 511, -511, 511));
            CHECKS.due("entry of -511", -511, () -> scene.entry(n, 2));
            CHECKS.due("entry of 511", 511, () -> scene.entry(n, 1));
        }
    }

    /** "There is no such row". */
    private static void rowRefusesWhatIsNoRow() {
        ExactScene scene = sceneWith(COUNTING);
        for (int row : NO_LINE) {
            CHECKS.dueThrow("row(" + row + ", ..)", IllegalArgumentException.class, () -> scene.row(row, 0, 0, 0, 0));
            CHECKS.dueThrow("row(" + row + ", 512, ..)", IllegalArgumentException.class,
                    () -> scene.row(row, 512, 0, 0, 0));
        }
        dueMatrix("refused rows", scene, COUNTING);
    }

    /** "Or an entry is not -511 .. 511": one wrong entry, and the other three are not taken either. */
    private static void rowRefusesWhatIsNoEntry() {
        ExactScene scene = sceneWith(COUNTING);
        for (int n = 0; n < 4; n++) {
            int row = n;
            for (int x : NO_ENTRY) {
                CHECKS.dueThrow("row with a " + x, IllegalArgumentException.class, () -> scene.row(row, x, 0, 0, 0));
                CHECKS.dueThrow("row with b " + x, IllegalArgumentException.class, () -> scene.row(row, 0, x, 0, 0));
                CHECKS.dueThrow("row with c " + x, IllegalArgumentException.class, () -> scene.row(row, 0, 0, x, 0));
                CHECKS.dueThrow("row with d " + x, IllegalArgumentException.class, () -> scene.row(row, 0, 0, 0, x));
            }
        }
        dueMatrix("refused rows", scene, COUNTING);
    }

    private static void moveMultipliesOnTheRight() {
        ExactScene scene = sceneWith(COUNTING);
        scene.move(1, -2, 3);
        dueMatrix("move(1, -2, 3)", scene, 1, 2, 3, 10, 5, 6, 7, 22, 9, 10, 11, 34, 13, 14, 15, 46);
        scene.move(0, 0, 0);
        dueMatrix("move(0, 0, 0)", scene, 1, 2, 3, 10, 5, 6, 7, 22, 9, 10, 11, 34, 13, 14, 15, 46);
    }

    /** "An entry would not be -511 .. 511": 511 and -511 are still reached, in every row. */
    private static void moveReachesTheLimits() {
        for (int row = 0; row < 4; row++) {
            for (int sign : SIGNS) {
                int[] start = single(row, 1, 1);
                start[4 * row + 3] = sign * 11;
                ExactScene scene = sceneWith(start);
                CHECKS.duePass("move to the limit", () -> scene.move(0, sign * 500, 0));
                start[4 * row + 3] = sign * 511;
                dueMatrix("moved to the limit", scene, start);
            }
        }
    }

    /** The same: 512 and -512 are refused, in every row and by each of the three numbers. */
    private static void moveRefusesWhatIsNoEntry() {
        for (int row = 0; row < 4; row++) {
            for (int sign : SIGNS) {
                int[] start = {0, 0, 0, 0, 0, 0, 0, 0, 0, 0, 0, 0, 0, 0, 0, 0};
                for (int column = 0; column < 3; column++) {
                    start[4 * row + column] = 1;
                }
                start[4 * row + 3] = sign * 11;
                ExactScene scene = sceneWith(start);
                int far = sign * 501;
                CHECKS.dueThrow("move by a", ArithmeticException.class, () -> scene.move(far, 0, 0));
                CHECKS.dueThrow("move by b", ArithmeticException.class, () -> scene.move(0, far, 0));
                CHECKS.dueThrow("move by c", ArithmeticException.class, () -> scene.move(0, 0, far));
                dueMatrix("refused moves of row " + row, scene, start);
            }
        }
        ExactScene fresh = new ExactScene();
        CHECKS.dueThrow("move(1, 2, 512)", ArithmeticException.class, () -> fresh.move(1, 2, 512));
        dueMatrix("the rows before the one that refuses", fresh, IDENTITY);
    }

    /** The same: a product of 2^32, or sums beyond an int, are no small entries. */
    private static void moveRefusesWhatWouldWrapAround() {
        int[] start = single(1, 0, 2);
        ExactScene even = sceneWith(start);
        CHECKS.dueThrow("a move whose product is -2^32", ArithmeticException.class,
                () -> even.move(Integer.MIN_VALUE, 0, 0));
        dueMatrix("the move of -2^32", even, start);
        int[] pair = {1, 1, 0, 0, 0, 0, 0, 0, 0, 0, 0, 0, 0, 0, 0, 0};
        ExactScene sum = sceneWith(pair);
        CHECKS.dueThrow("a move whose sum is -2^32", ArithmeticException.class,
                () -> sum.move(Integer.MIN_VALUE, Integer.MIN_VALUE, 0));
        CHECKS.dueThrow("a move whose sum is 2^32 - 2", ArithmeticException.class,
                () -> sum.move(Integer.MAX_VALUE, Integer.MAX_VALUE, 0));
        dueMatrix("the moves of 2^32", sum, pair);
        int[] most = {511, 511, 511, 511, 0, 0, 0, 0, 0, 0, 0, 0, 0, 0, 0, 0};
        ExactScene greatest = sceneWith(most);
        CHECKS.dueThrow("the greatest move", ArithmeticException.class,
                () -> greatest.move(Integer.MAX_VALUE, Integer.MAX_VALUE, Integer.MAX_VALUE));
        dueMatrix("the greatest move", greatest, most);
    }

    /** The entry alone counts: what is added up to it may be greater, and a column of zeros feels no move. */
    private static void moveLooksAtTheWholeSum() {
        ExactScene scene = sceneWith(511, -511, 0, 7, 0, 0, 0, 0, 0, 0, 0, 0, 0, 0, 0, 0);
        CHECKS.duePass("a move that cancels out",
                () -> scene.move(Integer.MAX_VALUE, Integer.MAX_VALUE, Integer.MIN_VALUE));
        dueMatrix("a move that cancels out", scene, 511, -511, 0, 7, 0, 0, 0, 0, 0, 0, 0, 0, 0, 0, 0, 0);
        ExactScene back = new ExactScene();
        back.row(0, 1, 1, 0, 500);
        back.row(1, 0, 0, 0, 0);
        CHECKS.duePass("over the limit and back", () -> back.move(500, -490, 0));
        CHECKS.due("entry(0, 3) then", 510, () -> back.entry(0, 3));
    }

    private static void stretchMultipliesColumns() {
        ExactScene scene = sceneWith(COUNTING);
        scene.stretch(2, -3, 0);
        dueMatrix("stretch(2, -3, 0)", scene, 2, -6, 0, 4, 10, -18, 0, 8, 18, -30, 0, 12, 26, -42, 0, 16);
    }

    private static void stretchColumn(ExactScene scene, int column, int by) {
        scene.stretch(column == 0 ? by : 1, column == 1 ? by : 1, column == 2 ? by : 1);
    }

    /** "ArithmeticException likewise": 511 and -511 are still reached, in every row and column. */
    private static void stretchReachesTheLimits() {
        for (int n = 0; n < 12; n++) {
            int row = n / 3;
            int column = n % 3;
            for (int sign : SIGNS) {
                ExactScene scene = sceneWith(single(row, column, 73));
                CHECKS.duePass("stretch to the limit", () -> stretchColumn(scene, column, sign * 7));
                dueMatrix("stretched to the limit", scene, single(row, column, sign * 511));
            }
        }
        ExactScene last = sceneWith(1, 1, 1, 511, 1, 1, 1, -511, 1, 1, 1, 511, 1, 1, 1, -511);
        CHECKS.duePass("a stretch beside a full last column", () -> last.stretch(2, 2, 2));
        dueMatrix("the last column", last, 2, 2, 2, 511, 2, 2, 2, -511, 2, 2, 2, 511, 2, 2, 2, -511);
    }

    /** The same: 512 and -512 are refused, in every row and column. */
    private static void stretchRefusesWhatIsNoEntry() {
        for (int n = 0; n < 12; n++) {
            int row = n / 3;
            int column = n % 3;
            for (int sign : SIGNS) {
                ExactScene scene = sceneWith(single(row, column, 64));
                CHECKS.dueThrow("stretch beyond", ArithmeticException.class,
                        () -> stretchColumn(scene, column, sign * 8));
                dueMatrix("a refused stretch", scene, single(row, column, 64));
            }
        }
        ExactScene fresh = new ExactScene();
        CHECKS.dueThrow("stretch(2, 2, 512)", ArithmeticException.class, () -> fresh.stretch(2, 2, 512));
        dueMatrix("the rows before the one that refuses", fresh, IDENTITY);
    }

    /** The same: products of 2^32 and beyond are no small entries. */
    private static void stretchRefusesWhatWouldWrapAround() {
        for (int row = 0; row < 4; row++) {
            ExactScene scene = sceneWith(single(row, 0, 4));
            CHECKS.dueThrow("a stretch whose product is 2^32", ArithmeticException.class,
                    () -> scene.stretch(1 << 30, 1, 1));
            CHECKS.dueThrow("a stretch whose product is -2^33", ArithmeticException.class,
                    () -> scene.stretch(Integer.MIN_VALUE, 1, 1));
            dueMatrix("a stretch of 2^32", scene, single(row, 0, 4));
        }
        ExactScene greatest = sceneWith(single(2, 2, 511));
        CHECKS.dueThrow("the greatest stretch", ArithmeticException.class,
                () -> greatest.stretch(1, 1, Integer.MAX_VALUE));
    }

    /** "An entry would not be -511 .. 511": here none would, however great a, b and c are. */
    private static void stretchOfZerosIsNeverRefused() {
        ExactScene scene = new ExactScene();
        CHECKS.duePass("a stretch by zeros", () -> scene.stretch(0, 0, 0));
        CHECKS.duePass("a stretch of zeros", () -> scene.stretch(Integer.MAX_VALUE, Integer.MIN_VALUE, 512));
        dueMatrix("zeros stretched", scene, single(3, 3, 1));
    }

    private static void turnChangesColumns() {
        ExactScene scene = sceneWith(COUNTING);
        scene.turn(0);
        dueMatrix("turn(0)", scene, 1, 3, -2, 4, 5, 7, -6, 8, 9, 11, -10, 12, 13, 15, -14, 16);
        Scenes.set(scene, COUNTING);
        scene.turn(1);
        dueMatrix("turn(1)", scene, -3, 2, 1, 4, -7, 6, 5, 8, -11, 10, 9, 12, -15, 14, 13, 16);
        Scenes.set(scene, COUNTING);
        scene.turn(2);
        dueMatrix("turn(2)", scene, 2, -1, 3, 4, 6, -5, 7, 8, 10, -9, 11, 12, 14, -13, 15, 16);
        for (int n = 0; n < 3; n++) {
            scene.turn(2);
        }
        dueMatrix("four quarter turns", scene, COUNTING);
    }

    /** The entries -511 and 511 have negatives that are entries too, so no turn is refused for them. */
    private static void turnKeepsToTheLimits() {
        ExactScene scene = sceneWith(511, -511, 511, 511, -511, 511, -511, 511, 0, 0, 0, 0, 511, 511, 511, -511);
        CHECKS.duePass("turn(0) at the limits", () -> scene.turn(0));
        dueMatrix("turn(0) at the limits", scene,
                511, 511, 511, 511, -511, -511, -511, 511, 0, 0, 0, 0, 511, 511, -511, -511);
    }

    /** "Axis is not 0 .. 2". */
    private static void turnRefusesWhatIsNoAxis() {
        ExactScene scene = sceneWith(COUNTING);
        for (int axis : new int[] {-1, 3, -2, -3, 4, Integer.MIN_VALUE, Integer.MAX_VALUE}) {
            CHECKS.dueThrow("turn(" + axis + ")", IllegalArgumentException.class, () -> scene.turn(axis));
        }
        dueMatrix("refused turns", scene, COUNTING);
    }

    private static void joinMultipliesOnTheLeft() {
        ExactScene scene = sceneWith(COUNTING);
        scene.push();
        Scenes.set(scene, 0, 1, 0, 0, 0, 0, 2, 0, 3, 0, 0, 0, 0, 0, 0, -1);
        scene.join();
        dueMatrix("join", scene, 9, 1, 4, -4, 21, 5, 12, -8, 33, 9, 20, -12, 45, 13, 28, -16);
    }

    /** "The latest of the pile * itself, which leaves the pile". */
    private static void joinTakesTheLatestFromThePile() {
        ExactScene scene = new ExactScene();
        scene.stretch(2, 1, 1);
        scene.push();
        scene.stretch(5, 3, 1);
        scene.push();
        scene.join();
        dueMatrix("join with the latest", scene, 100, 0, 0, 0, 0, 9, 0, 0, 0, 0, 1, 0, 0, 0, 0, 1);
        scene.join();
        dueMatrix("join with the one before", scene, 200, 0, 0, 0, 0, 9, 0, 0, 0, 0, 1, 0, 0, 0, 0, 1);
        CHECKS.dueThrow("a third join", IllegalStateException.class, scene::join);
        CHECKS.dueThrow("pop after the joins", IllegalStateException.class, scene::pop);
    }

    /** "Which leaves the pile": a full one has room again. */
    private static void joinMakesRoomOnThePile() {
        ExactScene scene = new ExactScene();
        for (int n = 0; n < 4; n++) {
            scene.push();
        }
        scene.join();
        CHECKS.duePass("push after a join", scene::push);
        CHECKS.dueThrow("push after that", IllegalStateException.class, scene::push);
    }

    /** "ArithmeticException likewise": 511 and -511 are still reached, at each of the 16 entries. */
    private static void joinReachesTheLimits() {
        for (int n = 0; n < 16; n++) {
            int row = n / 4;
            int column = n % 4;
            for (int sign : SIGNS) {
                ExactScene scene = sceneWith(single(row, 3 - column, 73));
                scene.push();
                Scenes.set(scene, single(3 - column, column, sign * 7));
                CHECKS.duePass("join to the limit", scene::join);
                dueMatrix("joined to the limit", scene, single(row, column, sign * 511));
            }
        }
    }

    /** "The pile is empty", whatever the product might be. */
    private static void joinRefusesAnEmptyPile() {
        ExactScene scene = new ExactScene();
        CHECKS.dueThrow("join with no pile", IllegalStateException.class, scene::join);
        dueMatrix("join with no pile", scene, IDENTITY);
        scene.stretch(511, 511, 511);
        scene.push();
        scene.pop();
        CHECKS.dueThrow("join with no pile any more", IllegalStateException.class, scene::join);
        dueMatrix("join with no pile any more", scene, 511, 0, 0, 0, 0, 511, 0, 0, 0, 0, 511, 0, 0, 0, 0, 1);
    }

    /** "ArithmeticException likewise": 512 and -512 are refused, at each of the 16 entries. */
    private static void joinRefusesWhatIsNoEntry() {
        for (int n = 0; n < 16; n++) {
            int row = n / 4;
            int column = n % 4;
            for (int sign : SIGNS) {
                ExactScene scene = sceneWith(single(row, 3 - column, 64));
                scene.push();
                Scenes.set(scene, single(3 - column, column, sign * 8));
                CHECKS.dueThrow("join beyond", ArithmeticException.class, scene::join);
                dueMatrix("a refused join", scene, single(3 - column, column, sign * 8));
            }
        }
    }

    /** The entry alone counts, not what is added up to it. */
    private static void joinLooksAtTheWholeSum() {
        ExactScene scene = sceneWith(511, 511, 511, -511, 0, 0, 0, 0, 0, 0, 0, 0, 0, 0, 0, 0);
        scene.push();
        Scenes.set(scene, 511, 0, 0, 0, 511, 0, 0, 0, -510, 0, 0, 0, 511, 0, 0, 0);
        CHECKS.duePass("a join that cancels out", scene::join);
        CHECKS.due("entry(0, 0) then", 511, () -> scene.entry(0, 0));
    }

    /** "A call that throws .. changes nothing": the latest is still on the pile. */
    private static void refusedJoinLeavesThePile() {
        ExactScene scene = new ExactScene();
        scene.push();
        scene.stretch(1, 1, 23);
        scene.push();
        CHECKS.dueThrow("join to 529", ArithmeticException.class, scene::join);
        CHECKS.dueThrow("join to 529 again", ArithmeticException.class, scene::join);
        scene.row(2, 0, 0, 2, 0);
        CHECKS.duePass("join to 46", scene::join);
        dueMatrix("a join after refused ones", scene, 1, 0, 0, 0, 0, 1, 0, 0, 0, 0, 46, 0, 0, 0, 0, 1);
        CHECKS.duePass("the one below", scene::pop);
        dueMatrix("the one below", scene, IDENTITY);
    }

    /** "The current matrix is put on the pile, too": what becomes of it later is not felt there. */
    private static void pushKeepsACopy() {
        ExactScene scene = sceneWith(COUNTING);
        scene.push();
        dueMatrix("push leaves the current one", scene, COUNTING);
        scene.turn(0);
        scene.row(3, 0, 0, 0, 0);
        scene.pop();
        dueMatrix("what was pushed", scene, COUNTING);
    }

    /** "A pile of at most 4 others", "there are four". */
    private static void pushRefusesTheFifth() {
        ExactScene scene = new ExactScene();
        for (int n = 1; n <= 4; n++) {
            CHECKS.duePass("push " + n, scene::push);
        }
        CHECKS.dueThrow("push 5", IllegalStateException.class, scene::push);
        CHECKS.dueThrow("push 5 again", IllegalStateException.class, scene::push);
        scene.pop();
        CHECKS.duePass("push after a pop", scene::push);
        CHECKS.dueThrow("push after that", IllegalStateException.class, scene::push);
    }

    /** "A call that throws .. changes nothing": neither the current matrix nor the four. */
    private static void refusedPushChangesNothing() {
        ExactScene scene = new ExactScene();
        for (int n = 1; n <= 4; n++) {
            scene.row(0, n, 0, 0, 0);
            scene.push();
        }
        scene.row(0, 9, 9, 9, 9);
        CHECKS.dueThrow("push 5", IllegalStateException.class, scene::push);
        CHECKS.due("the current one then", 9, () -> scene.entry(0, 0));
        for (int n = 4; n >= 1; n--) {
            scene.pop();
            CHECKS.due("what is on the pile", n, () -> scene.entry(0, 0));
        }
    }

    /** "The latest of the pile leaves it and is the current matrix": from the full pile to the empty one. */
    private static void popTakesTheLatest() {
        ExactScene scene = new ExactScene();
        for (int n = 0; n < 4; n++) {
            scene.row(1, n, 10 + n, 20 + n, 30 + n);
            scene.push();
        }
        scene.row(1, 0, 0, 0, 0);
        for (int n = 3; n >= 0; n--) {
            scene.pop();
            dueMatrix("pop " + n, scene, 1, 0, 0, 0, n, 10 + n, 20 + n, 30 + n, 0, 0, 1, 0, 0, 0, 0, 1);
        }
    }

    /** "The pile is empty". */
    private static void popRefusesAnEmptyPile() {
        ExactScene scene = sceneWith(COUNTING);
        CHECKS.dueThrow("pop with no pile", IllegalStateException.class, scene::pop);
        dueMatrix("pop with no pile", scene, COUNTING);
        scene.push();
        scene.row(0, 0, 0, 0, 0);
        scene.pop();
        CHECKS.dueThrow("pop of one too many", IllegalStateException.class, scene::pop);
        dueMatrix("pop of one too many", scene, COUNTING);
        CHECKS.duePass("push after refused pops", scene::push);
        CHECKS.duePass("pop after refused pops", scene::pop);
        dueMatrix("pop after refused pops", scene, COUNTING);
    }

    private static void entryTellsAll() {
        dueMatrix("all entries", sceneWith(COUNTING), COUNTING);
    }

    /** "There is none": though 4 * row + column may be 0 .. 15. */
    private static void entryRefusesWhatIsNone() {
        ExactScene scene = new ExactScene();
        for (int n : NO_LINE) {
            for (int m = 0; m < 4; m++) {
                int line = m;
                CHECKS.dueThrow("entry(" + n + ", " + m + ")", IndexOutOfBoundsException.class,
                        () -> scene.entry(n, line));
                CHECKS.dueThrow("entry(" + m + ", " + n + ")", IndexOutOfBoundsException.class,
                        () -> scene.entry(line, n));
            }
            CHECKS.dueThrow("entry(" + n + ", " + n + ")", IndexOutOfBoundsException.class, () -> scene.entry(n, n));
        }
    }
}
