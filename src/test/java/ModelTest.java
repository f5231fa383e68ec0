import java.util.Random;

/** Long runs of calls, each compared with the model; the seeds are fixed, so that each run is the same every time. */
public final class ModelTest {
    private static final int RUNS = 600;
    private static final int CALLS = 512;
    private static final int[] EXTREMES = {
        Integer.MIN_VALUE, Integer.MIN_VALUE + 1, -100, -1, 100, 65536 + 'U', Integer.MAX_VALUE - 1, Integer.MAX_VALUE,
    };

    private static final String[] CHANGES = {
        "start", "step", "step", "step", "step", "step", "step", "back", "slither", "slither", "turn", "turn",
        "reverse", "join", "join", "split", "remove", "draw", "write", "undo", "keep", "goBack", "append",
        "clearBuffer", "typed", "typed", "meeting", "wandering", "wandering",
    };
    private static final String[] QUERIES = {
        "site", "place", "path", "path", "path", "trapped", "touching", "shape", "isAlike", "free", "ways", "bestStep",
        "reach", "ifTurned", "turnable", "count", "spread", "share", "firstError",
    };

    private final Random random;
    private final LatticePaths x = new LatticePaths();
    private final Model model = new Model();
    private final StringBuilder told = new StringBuilder();
    private int calls;
    private boolean isWrong;

    private ModelTest(int seed) {
        random = new Random(seed);
    }

    public static void main(String[] args) {
        int wrong = 0;
        long calls = 0;
        for (int seed = 0; seed < RUNS && wrong < 5; seed++) {
            ModelTest run = new ModelTest(seed);
            run.go(seed % 4);
            calls += run.calls;
            if (run.isWrong) {
                wrong++;
                System.out.println("ModelTest: run " + seed + "\n" + run.told);
            }
        }
        System.out.println("ModelTest: " + calls + " calls, " + wrong + " wrong runs");
        if (wrong > 0) {
            System.exit(1);
        }
    }

    /** Some kinds of runs remove little, so that the lattice fills and paths grow to 60 sites. */
    private void go(int kind) {
        while (calls < CALLS && !isWrong) {
            if (random.nextInt(3) == 0) {
                query(QUERIES[random.nextInt(QUERIES.length)]);
                continue;
            }
            String change = CHANGES[random.nextInt(CHANGES.length)];
            boolean isLoss = "remove back undo goBack split clearBuffer".contains(change);
            if (kind == 0 || !isLoss || random.nextInt(10 * kind) == 0) {
                change(change, kind);
            }
        }
    }

    private int some(int bound) {
        return random.nextInt(25) == 0 ? random.nextInt(2 * bound + 2) - bound / 2 - 1 : random.nextInt(bound);
    }

    private int somePath() {
        return random.nextInt(40) == 0 ? random.nextInt(8) - 1 : random.nextInt(Math.max(1, x.count(0)));
    }

    private int somePlace(int path) {
        boolean isThere = path >= 0 && path < x.count(0);
        return random.nextInt(30) == 0 || !isThere ? random.nextInt(64) - 2 : random.nextInt(x.path(path, 0));
    }

    private void change(String name, int kind) {
        int path = somePath();
        switch (name) {
            case "start": case "keep": case "goBack": case "append":
                changeAnywhere(name);
                break;
            case "step": case "slither":
                compare(name, path, someDirection(path, kind));
                break;
            case "turn":
                compare(name, path, somePlace(path), random.nextInt(30) == 0 ? some(5) : 1 + random.nextInt(3));
                break;
            case "split":
                compare(name, path, somePlace(path));
                break;
            case "join":
                compare(name, path, somePath());
                break;
            case "draw": case "undo": case "clearBuffer":
                compare(name);
                break;
            case "typed":
                drawSomething();
                break;
            case "meeting":
                splitAndJoin(path);
                break;
            case "wandering":
                wander(path);
                break;
            default:
                compare(name, path);
        }
    }

    private void changeAnywhere(String name) {
        switch (name) {
            case "start":
                compare(name, some(10), some(10));
                break;
            case "append":
                compare(name, random.nextInt(20) == 0 ? random.nextInt(140) : "0123456789,:URDLx".charAt(random.nextInt(17)));
                break;
            default:
                compare(name, random.nextInt(15) == 0 ? random.nextInt(6) - 2 : random.nextInt(2));
        }
    }

    private int someDirection(int path, int kind) {
        boolean isThere = path >= 0 && path < x.count(0);
        if (isThere && kind > 1 && random.nextInt(3) > 0 && x.bestStep(path) >= 0) {
            return x.bestStep(path);
        }
        return random.nextInt(40) == 0 ? random.nextInt(8) - 2 : random.nextInt(4);
    }

    /** Many steps of one path, so that it comes to be long. */
    private void wander(int path) {
        int steps = random.nextInt(25);
        for (int step = 0; step < steps && calls < CALLS && !isWrong; step++) {
            compare("step", path, someDirection(path, 2));
        }
    }

    private void drawSomething() {
        compare("clearBuffer");
        String text = random.nextInt(10) + "," + random.nextInt(10) + ":";
        if (random.nextInt(4) == 0) {
            text = Look.snake(1 + random.nextInt(70));
        } else {
            int letters = random.nextInt(12);
            for (int i = 0; i < letters; i++) {
                text += "URDL".charAt(random.nextInt(4));
            }
        }
        if (random.nextInt(12) == 0) {
            int at = random.nextInt(text.length());
            text = text.substring(0, at) + (char) (33 + random.nextInt(94)) + text.substring(at + 1);
        }
        for (int i = 0; i < text.length() && calls < CALLS && !isWrong; i++) {
            compare("append", text.charAt(i));
        }
        compare("firstError");
        compare("draw");
    }

    /** Parts of one path meet at their heads when the later part is reversed. */
    private void splitAndJoin(int path) {
        compare("split", path, somePlace(path));
        int last = x.count(0) - 1;
        compare("reverse", last);
        if (random.nextBoolean()) {
            compare("join", path, last);
        } else {
            compare("join", last, path);
        }
    }

    private void query(String name) {
        int path = somePath();
        switch (name) {
            case "site":
                compare(name, some(10), some(10), some(3));
                break;
            case "place":
                compare(name, path, somePlace(path));
                break;
            case "path":
                compare(name, path, some(9));
                break;
            case "touching": case "isAlike":
                compare(name, path, somePath());
                break;
            case "shape":
                compare(name, path, random.nextInt(62) - 1);
                break;
            case "free":
                compare(name, some(4));
                break;
            case "count":
                compare(name, some(7));
                break;
            case "ways":
                compare(name, path, random.nextInt(4) == 0 ? some(7) : random.nextInt(5));
                break;
            case "ifTurned":
                compare(name, path, somePlace(path), random.nextInt(30) == 0 ? some(5) : 1 + random.nextInt(3));
                break;
            case "trapped": case "share": case "firstError":
                compare(name);
                break;
            default:
                compare(name, path);
        }
    }

    private void compare(String name, int... a) {
        if (isWrong || calls >= CALLS) {
            return;
        }
        calls++;
        if (a.length > 0 && random.nextInt(150) == 0) {
            a[random.nextInt(a.length)] = EXTREMES[random.nextInt(EXTREMES.length)];
        }
        told.append(name);
        for (int argument : a) {
            told.append(' ').append(argument);
        }
        String got = answer(name, a);
        String want = String.valueOf(model.call(name, a));
        told.append(" = ").append(got).append('\n');
        if (!got.equals(want)) {
            isWrong = true;
            told.append("due is ").append(want).append('\n');
            return;
        }
        compareStates();
    }

    /** After each call all that can be read of the state has to be the same. */
    private void compareStates() {
        for (int what = 0; what <= 6; what++) {
            expect("count " + what, model.call("count", what), x.count(what));
        }
        expect("firstError", model.call("firstError"), x.firstError());
        for (int path = 0; path < x.count(0); path++) {
            int sites = x.path(path, 0);
            expect("sites of " + path, model.call("path", path, 0), sites);
            for (int place = 0; place < sites; place++) {
                expect("place " + place + " of " + path, model.call("place", path, place), x.place(path, place));
            }
        }
    }

    private void expect(String what, Object want, int got) {
        if (!want.equals(got)) {
            isWrong = true;
            told.append(what).append(" is ").append(got).append(", due is ").append(want).append('\n');
        }
    }

    private String answer(String name, int... a) {
        try {
            return call(name, a);
        } catch (RuntimeException thrown) {
            return thrown.getClass().getSimpleName();
        }
    }

    private String call(String name, int... a) {
        switch (name) {
            case "start": return "" + x.start(a[0], a[1]);
            case "step": return "" + x.step(a[0], a[1]);
            case "back": return "" + x.back(a[0]);
            case "slither": return "" + x.slither(a[0], a[1]);
            case "turn": return "" + x.turn(a[0], a[1], a[2]);
            case "reverse": return "" + x.reverse(a[0]);
            case "join": return "" + x.join(a[0], a[1]);
            case "split": return "" + x.split(a[0], a[1]);
            case "remove": return "" + x.remove(a[0]);
            case "append": return "" + x.append(a[0]);
            case "clearBuffer": return "" + x.clearBuffer();
            case "firstError": return "" + x.firstError();
            case "draw": return "" + x.draw();
            case "write": return "" + x.write(a[0]);
            case "undo": return "" + x.undo();
            case "keep": return "" + x.keep(a[0]);
            case "goBack": return "" + x.goBack(a[0]);
            default: return askFor(name, a);
        }
    }

    private String askFor(String name, int... a) {
        switch (name) {
            case "site": return "" + x.site(a[0], a[1], a[2]);
            case "place": return "" + x.place(a[0], a[1]);
            case "path": return "" + x.path(a[0], a[1]);
            case "trapped": return "" + x.trapped();
            case "touching": return "" + x.touching(a[0], a[1]);
            case "shape": return "" + x.shape(a[0], a[1]);
            case "isAlike": return x.isAlike(a[0], a[1]) ? "1" : "0";
            case "free": return "" + x.free(a[0]);
            case "ways": return "" + x.ways(a[0], a[1]);
            case "bestStep": return "" + x.bestStep(a[0]);
            case "reach": return "" + x.reach(a[0]);
            case "ifTurned": return "" + x.ifTurned(a[0], a[1], a[2]);
            case "turnable": return "" + x.turnable(a[0]);
            case "count": return "" + x.count(a[0]);
            case "spread": return "" + x.spread(a[0]);
            case "share": return "" + (double) x.share();
            default: throw new AssertionError(name);
        }
    }
}
