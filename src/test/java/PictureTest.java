/** Promises 1 and 14 to 18: a new object, drawing, and what is drawn. */
public final class PictureTest {
    private static final Checks CHECKS = new Checks();
    private static final int[][] OUTSIDE = {{-1, 0}, {16, 0}, {0, -1}, {0, 12}, {12, 12}, {15, 12}, {16, 11}, {-1, 11},
        {15, -1}, {-16, 1}, {16, -1}, {Integer.MIN_VALUE, 0}, {Integer.MAX_VALUE, 0}, {0, Integer.MIN_VALUE},
        {0, Integer.MAX_VALUE}};

    public static void main(String[] args) {
        newObjectTests();
        drawTests();
        colourTests();
        ownerTests();
        compareTests();
        depthTests();
        objectLastsForItsCalls();
        CHECKS.end("PictureTest");
    }

    private static void newObjectTests() {
        newObjectHasNoTriangles();
        newObjectShowsNothing();
        newObjectUsesTheFirstOfEach();
        newObjectKnowsNothingOfOthers();
    }

    private static void drawTests() {
        drawTakesTheLowestEightBits();
        drawCountsTheOwned();
        leastDepthOwns();
        equalDepthsGoToTheLeastNumber();
        onesNotWholeAreNotDrawn();
        twentyAreDrawn();
        nextDrawReplacesAll();
    }

    private static void colourTests() {
        textureIsTakenWhenDrawn();
        colourRefusesWhatIsNone();
    }

    private static void ownerTests() {
        ownerIsThatOfTheDrawing();
        ownerRefusesWhatIsNone();
    }

    private static void compareTests() {
        compareTellsTheOrder();
        compareIsThatOfTheDrawing();
        compareReachesFar();
        compareIsExact();
        compareRefusesWhatIsNone();
        compareRefusesWhereNoOwnerIs();
        compareRefusesWhatIsNoneFirst();
    }

    private static void depthTests() {
        depthIsThatOfTheDrawing();
        depthReachesFar();
        depthRefusesWhatIsNone();
        depthRefusesWhereNoOwnerIs();
    }

    /** Covers i = 4 .. 11 and j = 4 .. 9, at the depth 0. */
    private static void tellRectangle(ExactScene scene) {
        Scenes.setFineGrid(scene);
        int[][] corners = {{-7, -1}, {9, -1}, {-7, 3}, {9, -1}, {9, 3}, {-7, 3}};
        for (int[] corner : corners) {
            Scenes.tell(scene, corner[0], corner[1], 0);
        }
    }

    private static ExactScene drawnRectangle() {
        ExactScene scene = new ExactScene();
        tellRectangle(scene);
        scene.draw(0);
        return scene;
    }

    private static ExactScene drawnFull() {
        ExactScene scene = new ExactScene();
        Scenes.tellFull(scene, 0, 0, 0);
        scene.draw(0);
        return scene;
    }

    /** "No triangles". */
    private static void newObjectHasNoTriangles() {
        ExactScene scene = new ExactScene();
        CHECKS.dueThrow("triangle of a new object", IndexOutOfBoundsException.class, () -> scene.triangle(0, 0));
        CHECKS.due("clear of a new object", 0, scene::clear);
        CHECKS.due("draw of a new object", 0, () -> new ExactScene().draw(0));
    }

    /** "Nothing is drawn: no pixel has an owner, all have the colour 0." */
    private static void newObjectShowsNothing() {
        ExactScene scene = new ExactScene();
        CHECKS.due("NONE", -1, () -> ExactScene.NONE);
        for (int n = 0; n < 192; n++) {
            int i = n % 16;
            int j = n / 16;
            CHECKS.due("owner of a new object", ExactScene.NONE, () -> scene.owner(i, j));
            CHECKS.due("colour of a new object", 0, () -> scene.colour(i, j));
        }
        CHECKS.dueThrow("depth of a new object", IllegalStateException.class, () -> scene.depth(15, 11));
        CHECKS.dueThrow("compare of a new object", IllegalStateException.class, () -> scene.compare(0, 0, 0, 0));
        Scenes.tellFull(scene, 0, 0, 0);
        CHECKS.due("owner before a draw", ExactScene.NONE, () -> scene.owner(3, 3));
    }

    /** "At first texture 0, mode 0 and sides 0 are in use." */
    private static void newObjectUsesTheFirstOfEach() {
        ExactScene scene = new ExactScene();
        scene.texel(0, 7, 0, 9);
        Scenes.tellFull(scene, 1, -1, 8);
        CHECKS.due("a front with nothing put in use", 192, () -> scene.draw(1));
        CHECKS.due("its colour", 9, () -> scene.colour(15, 11));
        Scenes.tellFullFromBehind(scene, 0, 0, 0);
        scene.draw(1);
        CHECKS.due("one from behind is shown too", 1, () -> scene.owner(15, 11));
    }

    /** A new object is as promised while another is in use. */
    private static void newObjectKnowsNothingOfOthers() {
        ExactScene used = new ExactScene();
        used.texel(0, 0, 0, 9);
        used.use(1, 1, 2);
        used.push();
        used.row(0, 5, 5, 5, 5);
        Scenes.tellFull(used, 0, 0, 0);
        ExactScene other = new ExactScene();
        CHECKS.due("entry of the other", 1, () -> other.entry(0, 0));
        CHECKS.dueThrow("pop of the other", IllegalStateException.class, other::pop);
        CHECKS.due("clear of the other", 0, other::clear);
        CHECKS.due("texel of the other", 0, () -> other.texel(0, 0, 0, 1));
        Scenes.tellFull(other, 0, 0, 0);
        CHECKS.due("draw of the other", 192, () -> other.draw(0));
        CHECKS.due("its colour", 1, () -> other.colour(0, 0));
        CHECKS.due("owner of the first", ExactScene.NONE, () -> used.owner(0, 0));
        CHECKS.due("texel of the first", 9, () -> used.texel(0, 0, 0, 1));
    }

    /** "With the lowest eight bits of background". */
    private static void drawTakesTheLowestEightBits() {
        int[][] pairs = {{0, 0}, {7, 7}, {128, 128}, {255, 255}, {256, 0}, {300, 44}, {-1, 255}, {-255, 1}, {-256, 0},
            {Integer.MIN_VALUE, 0}, {Integer.MAX_VALUE, 255}};
        ExactScene scene = new ExactScene();
        for (int[] pair : pairs) {
            CHECKS.due("draw of nothing", 0, () -> scene.draw(pair[0]));
            CHECKS.due("background " + pair[0], pair[1], () -> scene.colour(0, 0));
            CHECKS.due("background " + pair[0], pair[1], () -> scene.colour(15, 11));
        }
        CHECKS.due("owner of a background", ExactScene.NONE, () -> scene.owner(15, 11));
    }

    /** "How many pixels have an owner": none, some, all, and one that many cover counts once. */
    private static void drawCountsTheOwned() {
        ExactScene scene = new ExactScene();
        CHECKS.due("draw of none", 0, () -> scene.draw(0));
        tellRectangle(scene);
        CHECKS.due("draw of some", 48, () -> scene.draw(3));
        for (int n = 0; n < 192; n++) {
            int i = n % 16;
            int j = n / 16;
            boolean inside = i >= 4 && i <= 11 && j >= 4 && j <= 9;
            CHECKS.due("colour at (" + i + ", " + j + ")", inside ? 0 : 3, () -> scene.colour(i, j));
            CHECKS.due("owned at (" + i + ", " + j + ")", inside, () -> scene.owner(i, j) != ExactScene.NONE);
        }
        tellRectangle(scene);
        CHECKS.due("draw of the same twice", 48, () -> scene.draw(3));
        CHECKS.due("draw of all", 192, () -> {
            Scenes.set(scene, 1, 0, 0, 0, 0, 1, 0, 0, 0, 0, 1, 0, 0, 0, 0, 1);
            Scenes.tellFull(scene, 0, 0, 0);
            return scene.draw(3);
        });
    }

    /** "The triangle with the least depth of all that cover it": below 0 is less, and each pixel has its own. */
    private static void leastDepthOwns() {
        ExactScene scene = new ExactScene();
        scene.texel(0, 0, 0, 10);
        scene.texel(0, 1, 0, 11);
        scene.texel(0, 2, 0, 12);
        Scenes.tellFull(scene, 5, 0, 0);
        Scenes.tellFull(scene, -5, 1, 0);
        Scenes.tellFull(scene, 0, 2, 0);
        CHECKS.due("draw of three", 192, () -> scene.draw(0));
        CHECKS.due("the one in front", 1, () -> scene.owner(4, 4));
        CHECKS.due("its colour", 11, () -> scene.colour(4, 4));
        CHECKS.due("its depth", -5L, () -> scene.depth(4, 4));
        ExactScene crossing = new ExactScene();
        Scenes.tellSlope(crossing);
        Scenes.tellFull(crossing, 0, 0, 0);
        crossing.draw(0);
        CHECKS.due("left of the crossing", 0, () -> crossing.owner(7, 3));
        CHECKS.due("right of the crossing", 1, () -> crossing.owner(8, 3));
    }

    /** "Of equal ones the one with the least number": with any D, and from either side. */
    private static void equalDepthsGoToTheLeastNumber() {
        ExactScene scene = new ExactScene();
        Scenes.tellFull(scene, 4, 0, 0);
        Scenes.tell(scene, -31, -31, 3);
        Scenes.tell(scene, 31, -31, 3);
        Scenes.tell(scene, 0, 31, 3);
        Scenes.tellFull(scene, 3, 0, 0);
        Scenes.tellFullFromBehind(scene, 3, 0, 0);
        Scenes.tellFull(scene, 3, 0, 0);
        CHECKS.due("draw", 192, () -> scene.draw(0));
        for (int n = 0; n < 192; n++) {
            int i = n % 16;
            int j = n / 16;
            CHECKS.due("owner of equal depths", 1, () -> scene.owner(i, j));
        }
    }

    /** "Each three vertices told one behind the other are a TRIANGLE": fewer cover nothing. */
    private static void onesNotWholeAreNotDrawn() {
        ExactScene scene = new ExactScene();
        scene.vertex(-1, -1, 0, 0, 0);
        CHECKS.due("draw of one vertex", 0, () -> scene.draw(0));
        scene.vertex(3, -1, 0, 0, 0);
        CHECKS.due("draw of two", 0, () -> scene.draw(0));
        scene.vertex(-1, 3, 0, 0, 0);
        CHECKS.due("draw of three", 192, () -> scene.draw(0));
    }

    /** The last of the 20 triangles counts as the first one does. */
    private static void twentyAreDrawn() {
        ExactScene scene = new ExactScene();
        for (int n = 0; n < 20; n++) {
            Scenes.tellFull(scene, 19 - n, 0, 0);
        }
        CHECKS.due("draw of 20", 192, () -> scene.draw(0));
        CHECKS.due("the nearest of 20", 19, () -> scene.owner(0, 0));
        CHECKS.due("the nearest of 20", 19, () -> scene.owner(15, 11));
        CHECKS.due("its depth", 0L, () -> scene.depth(7, 7));
    }

    /** "A pixel that none covers has no owner, and the background's colour", though it had one before. */
    private static void nextDrawReplacesAll() {
        ExactScene scene = drawnFull();
        scene.clear();
        tellRectangle(scene);
        CHECKS.due("the next draw", 48, () -> scene.draw(8));
        CHECKS.due("the owner outside", ExactScene.NONE, () -> scene.owner(2, 2));
        CHECKS.due("the colour outside", 8, () -> scene.colour(2, 2));
        CHECKS.dueThrow("the depth outside", IllegalStateException.class, () -> scene.depth(2, 2));
        CHECKS.due("the owner inside", 0, () -> scene.owner(4, 4));
        scene.clear();
        CHECKS.due("a draw with none left", 0, () -> scene.draw(9));
        CHECKS.due("the owner then", ExactScene.NONE, () -> scene.owner(4, 4));
        CHECKS.due("the colour then", 9, () -> scene.colour(4, 4));
        CHECKS.dueThrow("compare then", IllegalStateException.class, () -> scene.compare(4, 4, 4, 4));
    }

    /** "That triangle's texel (as the textures are then)". */
    private static void textureIsTakenWhenDrawn() {
        ExactScene scene = new ExactScene();
        Scenes.tellFull(scene, 0, 2, 6);
        scene.texel(0, 2, 6, 50);
        scene.draw(0);
        scene.texel(0, 2, 6, 60);
        CHECKS.due("the colour stays", 50, () -> scene.colour(0, 0));
        scene.draw(0);
        CHECKS.due("the colour of the next draw", 60, () -> scene.colour(0, 0));
    }

    /** "There is none such". */
    private static void colourRefusesWhatIsNone() {
        for (ExactScene scene : new ExactScene[] {new ExactScene(), drawnFull()}) {
            for (int[] pixel : OUTSIDE) {
                CHECKS.dueThrow("colour(" + pixel[0] + ", " + pixel[1] + ")", IndexOutOfBoundsException.class,
                        () -> scene.colour(pixel[0], pixel[1]));
            }
        }
    }

    /** "Its owner when it was drawn; NONE when it had none". */
    private static void ownerIsThatOfTheDrawing() {
        ExactScene scene = new ExactScene();
        Scenes.tellFull(scene, 5, 0, 0);
        Scenes.tellFull(scene, 4, 0, 0);
        scene.draw(0);
        Scenes.tellFull(scene, 3, 0, 0);
        CHECKS.due("owner with a nearer one told", 1, () -> scene.owner(2, 2));
        scene.clear();
        CHECKS.due("owner after clear()", 1, () -> scene.owner(2, 2));
        Scenes.tellFull(scene, 3, 0, 0);
        CHECKS.due("owner with others told", 1, () -> scene.owner(2, 2));
        ExactScene none = new ExactScene();
        none.draw(0);
        Scenes.tellFull(none, 0, 0, 0);
        CHECKS.due("owner where none was", ExactScene.NONE, () -> none.owner(2, 2));
    }

    /** "IndexOutOfBoundsException likewise". */
    private static void ownerRefusesWhatIsNone() {
        for (ExactScene scene : new ExactScene[] {new ExactScene(), drawnFull()}) {
            for (int[] pixel : OUTSIDE) {
                CHECKS.dueThrow("owner(" + pixel[0] + ", " + pixel[1] + ")", IndexOutOfBoundsException.class,
                        () -> scene.owner(pixel[0], pixel[1]));
            }
        }
        ExactScene drawn = drawnFull();
        CHECKS.due("owner(0, 0)", 0, () -> drawn.owner(0, 0));
        CHECKS.due("owner(15, 0)", 0, () -> drawn.owner(15, 0));
        CHECKS.due("owner(0, 11)", 0, () -> drawn.owner(0, 11));
        CHECKS.due("owner(15, 11)", 0, () -> drawn.owner(15, 11));
    }

    /** "-1, 0 or 1, as the first one's is less, the same or greater". */
    private static void compareTellsTheOrder() {
        ExactScene scene = new ExactScene();
        Scenes.tellSlope(scene);
        scene.draw(0);
        CHECKS.due("less", -1, () -> scene.compare(3, 9, 4, 1));
        CHECKS.due("greater", 1, () -> scene.compare(4, 1, 3, 9));
        CHECKS.due("the same", 0, () -> scene.compare(4, 1, 4, 9));
        CHECKS.due("with itself", 0, () -> scene.compare(4, 1, 4, 1));
        CHECKS.due("much less", -1, () -> scene.compare(0, 0, 15, 11));
        CHECKS.due("much greater", 1, () -> scene.compare(15, 11, 0, 0));
        CHECKS.due("of different signs", -1, () -> scene.compare(7, 0, 8, 0));
        CHECKS.due("both below 0", 1, () -> scene.compare(2, 0, 1, 0));
    }

    /** "When they were drawn". */
    private static void compareIsThatOfTheDrawing() {
        ExactScene scene = new ExactScene();
        Scenes.tellSlope(scene);
        scene.draw(0);
        scene.clear();
        CHECKS.due("less, after clear()", -1, () -> scene.compare(3, 9, 4, 1));
        Scenes.tellFull(scene, 0, 0, 0);
        CHECKS.due("less, with others told", -1, () -> scene.compare(3, 9, 4, 1));
        scene.draw(0);
        CHECKS.due("the same, once they are drawn", 0, () -> scene.compare(3, 9, 4, 1));
    }

    /** Here D and the depths times D are so great that their products wrap around in a long. */
    private static void compareReachesFar() {
        ExactScene scene = new ExactScene();
        Scenes.tellMade(scene, -15999, -15999, -48033, 15999);
        Scenes.tellMade(scene, 3 * 15999, -15999, 48033, 15999);
        Scenes.tellMade(scene, -15999, 3 * 15999, -30001, 15999);
        CHECKS.due("draw", 192, () -> scene.draw(0));
        for (int n = 0; n < 180; n++) {
            int i = n % 15;
            int j = n / 15;
            CHECKS.due("compare with the next", -1, () -> scene.compare(i, j, i + 1, j));
            CHECKS.due("compare of the next", 1, () -> scene.compare(i + 1, j, i, j));
        }
        CHECKS.due("compare with itself", 0, () -> scene.compare(8, 8, 8, 8));
    }

    /**
     * Two triangles share the edge between vertices 0 and 1, which runs by the centre of (7, 5) so
     * closely that E2 is 8 there: their depths differ by less than a double can tell.
     */
    private static void compareIsExact() {
        int[] greater = {-41307, 34927, -15611, -27087};
        int[] less = {-44687, 30881, 41407, -27508};
        ExactScene lessLast = new ExactScene();
        tellByAHair(lessLast, 1, greater);
        tellByAHair(lessLast, 1, less);
        lessLast.draw(0);
        CHECKS.due("owner by a hair", 1, () -> lessLast.owner(7, 5));
        ExactScene lessFirst = new ExactScene();
        tellByAHair(lessFirst, 1, less);
        tellByAHair(lessFirst, 1, greater);
        lessFirst.draw(0);
        CHECKS.due("owner by a hair", 0, () -> lessFirst.owner(7, 5));
        ExactScene mirrored = new ExactScene();
        tellByAHair(mirrored, 1, greater);
        tellByAHair(mirrored, -1, less);
        mirrored.draw(0);
        CHECKS.due("the greater one's owner", 0, () -> mirrored.owner(7, 5));
        CHECKS.due("the other's owner", 1, () -> mirrored.owner(8, 5));
        CHECKS.due("greater by a hair", 1, () -> mirrored.compare(7, 5, 8, 5));
        CHECKS.due("less by a hair", -1, () -> mirrored.compare(8, 5, 7, 5));
    }

    /** The third vertex is X, Y, Z, W; mirror -1 shows the left side of the picture on the right. */
    private static void tellByAHair(ExactScene scene, int mirror, int[] third) {
        Scenes.tellMade(scene, mirror * -25970, -35138, 48034, -39277);
        Scenes.tellMade(scene, mirror * 18684, 25288, 48034, 35483);
        Scenes.tellMade(scene, mirror * third[0], third[1], third[2], third[3]);
    }

    /** "IndexOutOfBoundsException likewise": the first pixel, the second, or both. */
    private static void compareRefusesWhatIsNone() {
        ExactScene scene = drawnFull();
        for (int[] pixel : OUTSIDE) {
            int i = pixel[0];
            int j = pixel[1];
            CHECKS.dueThrow("compare of a first one outside", IndexOutOfBoundsException.class,
                    () -> scene.compare(i, j, 0, 0));
            CHECKS.dueThrow("compare with a second one outside", IndexOutOfBoundsException.class,
                    () -> scene.compare(0, 0, i, j));
            CHECKS.dueThrow("compare of two outside", IndexOutOfBoundsException.class,
                    () -> scene.compare(i, j, i, j));
        }
        CHECKS.due("compare of the corners", 0, () -> scene.compare(0, 11, 15, 0));
    }

    /** "One had no owner": the first, the second, or both. */
    private static void compareRefusesWhereNoOwnerIs() {
        ExactScene scene = drawnRectangle();
        CHECKS.dueThrow("the first has no owner", IllegalStateException.class, () -> scene.compare(0, 0, 5, 5));
        CHECKS.dueThrow("the second has no owner", IllegalStateException.class, () -> scene.compare(5, 5, 0, 0));
        CHECKS.dueThrow("neither has one", IllegalStateException.class, () -> scene.compare(0, 0, 15, 11));
        CHECKS.dueThrow("one with itself", IllegalStateException.class, () -> scene.compare(0, 0, 0, 0));
        CHECKS.due("both have one", 0, () -> scene.compare(5, 5, 6, 6));
    }

    /** "Where several refusals hold, the first one named is thrown." */
    private static void compareRefusesWhatIsNoneFirst() {
        for (ExactScene scene : new ExactScene[] {new ExactScene(), drawnRectangle()}) {
            for (int[] pixel : OUTSIDE) {
                CHECKS.dueThrow("no owner, and one outside", IndexOutOfBoundsException.class,
                        () -> scene.compare(0, 0, pixel[0], pixel[1]));
                CHECKS.dueThrow("one outside, and no owner", IndexOutOfBoundsException.class,
                        () -> scene.compare(pixel[0], pixel[1], 0, 0));
            }
        }
    }

    /** "The depth of the owner", whatever became of it. */
    private static void depthIsThatOfTheDrawing() {
        ExactScene scene = new ExactScene();
        Scenes.tellFull(scene, -6, 0, 0);
        scene.draw(0);
        Scenes.tellFull(scene, -7, 0, 0);
        CHECKS.due("depth with a nearer one told", -6L, () -> scene.depth(1, 1));
        scene.clear();
        Scenes.tellFull(scene, 8, 0, 0);
        CHECKS.due("depth with others told", -6L, () -> scene.depth(1, 1));
        scene.draw(0);
        CHECKS.due("depth once they are drawn", 8L, () -> scene.depth(1, 1));
    }

    /** The depths are 511 * (1 / 16 + 1 / 12 + 32) and its negative. */
    private static void depthReachesFar() {
        for (int sign = -1; sign <= 1; sign += 2) {
            ExactScene scene = new ExactScene();
            int entry = sign * 511;
            scene.row(2, entry, entry, entry, entry);
            Scenes.tell(scene, 31, 31, 31);
            Scenes.tell(scene, -31, 31, 31);
            Scenes.tell(scene, 0, -31, 31);
            scene.draw(0);
            CHECKS.due("a great depth", sign > 0 ? 16426L : -16427L, () -> scene.depth(8, 6));
        }
    }

    /** "Throws as compare() does": IndexOutOfBoundsException where there is no pixel, drawn or not. */
    private static void depthRefusesWhatIsNone() {
        for (ExactScene scene : new ExactScene[] {new ExactScene(), drawnFull()}) {
            for (int[] pixel : OUTSIDE) {
                CHECKS.dueThrow("depth(" + pixel[0] + ", " + pixel[1] + ")", IndexOutOfBoundsException.class,
                        () -> scene.depth(pixel[0], pixel[1]));
            }
        }
    }

    /** The same: IllegalStateException where a pixel had no owner. */
    private static void depthRefusesWhereNoOwnerIs() {
        ExactScene scene = drawnRectangle();
        CHECKS.dueThrow("depth beside a rectangle", IllegalStateException.class, () -> scene.depth(3, 4));
        CHECKS.dueThrow("depth below a rectangle", IllegalStateException.class, () -> scene.depth(11, 10));
        CHECKS.due("depth in its corner", 0L, () -> scene.depth(4, 4));
        CHECKS.due("depth in its last corner", 0L, () -> scene.depth(11, 9));
    }

    /** "An object is used for at most 512 calls": the last of them is answered as any other. */
    private static void objectLastsForItsCalls() {
        ExactScene scene = new ExactScene();
        for (int round = 0; round < 8; round++) {
            for (int n = 0; n < 60; n++) {
                int count = (n + 1) / 3;
                CHECKS.due("vertex in round " + round, count, () -> scene.vertex(1, 1, 2, 3, 4));
            }
            CHECKS.due("draw in round " + round, 0, () -> scene.draw(5));
            CHECKS.due("clear in round " + round, 20, scene::clear);
            CHECKS.duePass("push in round " + round, scene::push);
            CHECKS.duePass("pop in round " + round, scene::pop);
        }
        ExactScene drawn = drawnFull();
        for (int n = 0; n < 506; n++) {
            CHECKS.due("draw " + n, 192, () -> drawn.draw(0));
        }
        CHECKS.due("call 511", 0L, () -> drawn.depth(15, 11));
        CHECKS.due("call 512", 0, () -> drawn.owner(15, 11));
    }
}
