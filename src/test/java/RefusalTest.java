import java.util.ArrayList;
import java.util.List;

/**
 * "A call that throws, or answers false, changes nothing." Each refused call is made on one of two
 * scenes that were told the same; then all that can be asked of them must be the same.
 */
public final class RefusalTest {
    private static final Checks CHECKS = new Checks();

    /** How much a scene holds when the refused call comes. */
    private enum Fill { NOTHING, SOME, ALL }

    /** A call on a scene that answers something. */
    private interface Question {
        Object of(ExactScene scene);
    }

    /** A call on a scene that answers nothing. */
    private interface Deed {
        void on(ExactScene scene);
    }

    /** A call that is due to be refused, and how. */
    private record Refused(String what, Object how, Question question) { }

    private static final String ARGUMENT = "throws.IllegalArgumentException";
    private static final String STATE = "throws.IllegalStateException";
    private static final String INDEX = "throws.IndexOutOfBoundsException";
    private static final String ARITHMETIC = "throws.ArithmeticException";

    public static void main(String[] args) {
        for (Fill fill : Fill.values()) {
            for (Refused refused : refusedAt(fill)) {
                dueNoChange(fill, refused);
            }
        }
        CHECKS.end("RefusalTest");
    }

    private static void dueNoChange(Fill fill, Refused refused) {
        ExactScene scene = prepared(fill);
        CHECKS.due(refused.what + " with " + fill, refused.how, () -> refused.question.of(scene));
        String want = lookAtAll(prepared(fill));
        CHECKS.due("all that is asked after " + refused.what + " with " + fill, want, () -> lookAtAll(scene));
    }

    private static List<Refused> refusedAt(Fill fill) {
        List<Refused> all = new ArrayList<>();
        addMatrixCalls(all, fill);
        addTriangleCalls(all, fill);
        addPictureCalls(all, fill);
        return all;
    }

    private static void addMatrixCalls(List<Refused> all, Fill fill) {
        all.add(deed("row 4", ARGUMENT, s -> s.row(4, 1, 2, 3, 4)));
        all.add(deed("row -1", ARGUMENT, s -> s.row(-1, 1, 2, 3, 4)));
        all.add(deed("row with a last entry too great", ARGUMENT, s -> s.row(1, 7, 8, 9, 512)));
        all.add(deed("row with a first entry too small", ARGUMENT, s -> s.row(2, -512, 7, 8, 9)));
        all.add(deed("move too far", ARITHMETIC, s -> s.move(0, 0, 600)));
        all.add(deed("move too far back", ARITHMETIC, s -> s.move(-600, 0, 0)));
        all.add(deed("stretch of the third column", ARITHMETIC, s -> s.stretch(2, 2, 600)));
        all.add(deed("stretch of the first column", ARITHMETIC, s -> s.stretch(600, 2, 2)));
        all.add(deed("turn 3", ARGUMENT, s -> s.turn(3)));
        all.add(deed("turn -1", ARGUMENT, s -> s.turn(-1)));
        all.add(new Refused("entry(4, 0)", INDEX, s -> s.entry(4, 0)));
        all.add(new Refused("entry(0, -1)", INDEX, s -> s.entry(0, -1)));
        if (fill == Fill.NOTHING) {
            all.add(deed("join with no pile", STATE, ExactScene::join));
            all.add(deed("pop", STATE, ExactScene::pop));
        } else {
            all.add(deed("join to what is no entry", ARITHMETIC, ExactScene::join));
        }
        if (fill == Fill.ALL) {
            all.add(deed("push", STATE, ExactScene::push));
        }
    }

    private static void addTriangleCalls(List<Refused> all, Fill fill) {
        all.add(new Refused("vertex with x 32", ARGUMENT, s -> s.vertex(32, 1, 2, 3, 4)));
        all.add(new Refused("vertex with z -32", ARGUMENT, s -> s.vertex(1, 2, -32, 3, 4)));
        all.add(new Refused("vertex with v 128", ARGUMENT, s -> s.vertex(1, 2, 3, 4, 128)));
        if (fill == Fill.ALL) {
            all.add(new Refused("vertex", STATE, s -> s.vertex(1, 2, 3, 4, 5)));
        }
        all.add(new Refused("use of texture 2", false, s -> s.use(2, 0, 2)));
        all.add(new Refused("use of texture -1", false, s -> s.use(-1, 0, 2)));
        all.add(new Refused("use of mode 2", false, s -> s.use(0, 2, 2)));
        all.add(new Refused("use of mode -1", false, s -> s.use(0, -1, 2)));
        all.add(new Refused("use of sides 3", false, s -> s.use(0, 0, 3)));
        all.add(new Refused("use of sides -1", false, s -> s.use(0, 0, -1)));
        all.add(new Refused("texel of texture 2", INDEX, s -> s.texel(2, 1, 1, 77)));
        all.add(new Refused("texel of texture -1", INDEX, s -> s.texel(-1, 1, 1, 77)));
        all.add(new Refused("texel with s 8", INDEX, s -> s.texel(0, 8, 1, 77)));
        all.add(new Refused("texel with t -1", INDEX, s -> s.texel(1, 1, -1, 77)));
        all.add(new Refused("triangle(20, 0)", INDEX, s -> s.triangle(20, 0)));
        all.add(new Refused("triangle(0, 13)", INDEX, s -> s.triangle(0, 13)));
    }

    private static void addPictureCalls(List<Refused> all, Fill fill) {
        all.add(new Refused("colour(16, 0)", INDEX, s -> s.colour(16, 0)));
        all.add(new Refused("owner(0, 12)", INDEX, s -> s.owner(0, 12)));
        all.add(new Refused("depth(-1, 0)", INDEX, s -> s.depth(-1, 0)));
        all.add(new Refused("compare(0, 0, 0, -1)", INDEX, s -> s.compare(0, 0, 0, -1)));
        if (fill == Fill.NOTHING) {
            all.add(new Refused("depth(0, 0)", STATE, s -> s.depth(0, 0)));
            all.add(new Refused("compare(0, 0, 1, 1)", STATE, s -> s.compare(0, 0, 1, 1)));
        }
    }

    private static Refused deed(String what, String how, Deed deed) {
        return new Refused(what, how, scene -> {
            deed.on(scene);
            return "nothing";
        });
    }

    private static ExactScene prepared(Fill fill) {
        ExactScene scene = new ExactScene();
        if (fill == Fill.NOTHING) {
            scene.row(3, 1, 1, 1, 1);
            return scene;
        }
        int pushes = fill == Fill.ALL ? 4 : 2;
        for (int n = 0; n < pushes; n++) {
            scene.row(3, 0, 0, n, 30 + n);
            scene.push();
        }
        scene.row(3, 0, 0, 1, 20);
        for (int n = 0; n < 32; n++) {
            scene.texel(n / 16, n % 8, 3 + n / 8 % 2, 100 + n);
        }
        int triangles = fill == Fill.ALL ? 20 : 3;
        for (int n = 0; n < triangles; n++) {
            scene.use(n % 2, n / 2 % 2, 0);
            scene.vertex(2 * n - 25, -20, n % 5, n, n - 4);
            scene.vertex(25, 2 * n - 20, 3 * n % 7, n + 3, n);
            scene.vertex(n - 10, 25 - n, 10 - n, n - 5, n + 4);
        }
        scene.draw(6);
        if (fill == Fill.SOME) {
            scene.use(1, 1, 1);
            scene.vertex(-31, 0, 0, -9, 3);
            scene.vertex(31, 0, 0, 20, 4);
        }
        return scene;
    }

    /** Fewer than 400 calls, the last ones of which change the scene to see what no call answers by itself. */
    private static String lookAtAll(ExactScene scene) {
        StringBuilder seen = new StringBuilder();
        lookAtPicture(seen, scene, 5);
        lookAtTriangles(seen, scene);
        lookAtMatrix(seen, scene);
        for (int n = 0; n < 3; n++) {
            int z = n;
            note(seen, () -> scene.vertex(z, 31, z, 3, 3));
        }
        lookAtTriangles(seen, scene);
        note(seen, () -> scene.draw(8));
        lookAtPicture(seen, scene, 7);
        for (int n = 0; n < 64; n++) {
            int k = n;
            note(seen, () -> scene.texel((k % 8 + k / 8) % 2, k % 8, k / 8, 0));
        }
        for (int n = 0; n < 5; n++) {
            note(seen, () -> {
                scene.pop();
                return "popped";
            });
            lookAtMatrix(seen, scene);
        }
        note(seen, scene::clear);
        return seen.toString();
    }

    private static void lookAtPicture(StringBuilder seen, ExactScene scene, int step) {
        for (int n = 0; n < 192; n += step) {
            int i = n % 16;
            int j = n / 16;
            note(seen, () -> scene.colour(i, j));
            note(seen, () -> scene.owner(i, j));
        }
        note(seen, () -> scene.depth(7, 7));
        note(seen, () -> scene.compare(3, 3, 12, 8));
    }

    private static void lookAtTriangles(StringBuilder seen, ExactScene scene) {
        for (int n = 0; n < 20; n++) {
            int k = n;
            note(seen, () -> scene.triangle(k, 0));
        }
        note(seen, () -> scene.triangle(0, 1));
        note(seen, () -> scene.triangle(3, 12));
    }

    private static void lookAtMatrix(StringBuilder seen, ExactScene scene) {
        for (int n = 0; n < 16; n++) {
            int k = n;
            note(seen, () -> scene.entry(k / 4, k % 4));
        }
    }

    private static void note(StringBuilder seen, Checks.Call call) {
        seen.append(Checks.outcome(call)).append(' ');
    }
}
