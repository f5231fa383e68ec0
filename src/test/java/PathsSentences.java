/** The sentences of promises 1 to 5. */
final class PathsSentences {
    private static final int UP = 0;
    private static final int RIGHT = 1;
    private static final int DOWN = 2;
    private static final int LEFT = 3;

    private final Due due;
    private final Sentences document;
    private final Edges edges;

    PathsSentences(Due due, Sentences document) {
        this.due = due;
        this.document = document;
        this.edges = new Edges(due);
    }

    void test() {
        newObject();
        start();
        step();
        back();
        slither();
    }

    // ---- promise 1

    private void newObject() {
        document.under("Promise 1");
        document.says("Creates an empty lattice.", this::emptyLattice);
    }

    private void emptyLattice() {
        LatticePaths full = Look.with(Edges.FIVE);
        full.keep(0);
        full.append('7');
        LatticePaths x = new LatticePaths();
        due.tells("all, whatever another object holds", "0 0 0 0 0 0 0 error 0", Look.at(x));
        due.tells("what stands on the sites", Look.sitesOfPaths(x), Look.marks(x));
        due.answers("the free sites", 100, x.free(0));
        due.answers("the trapped paths", 0, x.trapped());
        due.answers("the share", 0, x.share());
        due.throwsState(x, "undo", () -> x.undo());
        due.throwsState(x, "goBack to the first slot", () -> x.goBack(0));
        due.throwsState(x, "goBack to the second slot", () -> x.goBack(1));
        due.throwsArgument(x, "draw", () -> x.draw());
        x.start(9, 0);
        due.answers("the other object's paths", 5, full.count(0));
    }

    // ---- promise 2

    private void start() {
        document.under("Promise 2");
        document.says("Starts a path with one site.", this::startsOneSite);
        document.says("Undoable.", () -> {
            LatticePaths x = Look.with("0,0:R");
            edges.undoable("start", x, () -> x.start(5, 5));
            LatticePaths empty = new LatticePaths();
            edges.undoable("the first start", empty, () -> empty.start(5, 5));
        });
        document.says("- `column`: 0 to 9", () -> edges.takes("the column", 0, 9, (x, column) -> x.start(column, 4)));
        document.says("- `row`: 0 to 9", () -> edges.takes("the row", 0, 9, (x, row) -> x.start(4, row)));
        document.says("Returns its number.", this::startReturnsNumbers);
        document.says("Throws `IndexOutOfBoundsException` if there is no such site", () -> {
            edges.throwsIndex("the column", 0, 9, (x, column) -> x.start(column, 4));
            edges.throwsIndex("the row", 0, 9, (x, row) -> x.start(4, row));
            edges.throwsIndex("both", 0, 9, (x, number) -> x.start(number, number), Edges.FIVE);
        });
        document.says("Throws `IllegalStateException` if the site is not free, or there are 5 paths",
                this::startWhereItCannot);
    }

    private void startsOneSite() {
        LatticePaths x = new LatticePaths();
        x.start(3, 8);
        due.tells("all", "1 1 0 0 0 1 0 error 0 [83]", Look.at(x));
        due.answers("its only site, as its tail and its head", 0, x.path(0, 5));
        due.answers("the path at the site", 0, x.site(3, 8, 0));
        due.answers("the number at the site", 0, x.site(3, 8, 1));
    }

    private void startReturnsNumbers() {
        LatticePaths x = new LatticePaths();
        for (int number = 0; number < 5; number++) {
            due.answers("start", number, x.start(2 * number, number));
        }
        x.remove(0);
        due.answers("start behind a removal", 4, x.start(9, 9));
    }

    private void startWhereItCannot() {
        LatticePaths x = Look.with("4,4:RR", "0,0:", "9,9:", "0,9:");
        due.throwsState(x, "at a tail", () -> x.start(4, 4));
        due.throwsState(x, "at a site between", () -> x.start(5, 4));
        due.throwsState(x, "at a head", () -> x.start(6, 4));
        due.throwsState(x, "at another path", () -> x.start(9, 9));
        due.answers("the fifth", 4, x.start(9, 0));
        due.throwsState(x, "the sixth", () -> x.start(5, 5));
        due.throwsState(x, "the sixth, at a site that is not free", () -> x.start(4, 4));
        x.remove(4);
        due.answers("the fifth again", 4, x.start(9, 0));
    }

    // ---- promise 3

    private void step() {
        document.under("Promise 3");
        document.says("Adds a site at the head of a path, if the step is not refused.", this::stepAddsASite);
        document.says("Undoable, also if it is refused.", this::stepIsUndoable);
        document.says("- `path`: its number", () -> {
            edges.eachPath("a step right", (x, path) -> x.step(path, RIGHT), 0, 0, 2, 0, 1);
            edges.eachPathThen("the sites then", (x, path) -> x.step(path, RIGHT), (x, path) -> x.path(path, 0),
                    3, 4, 4, 6, 6);
        });
        document.says("- `direction`: 0 to 3",
                () -> edges.takes("the direction", 0, 3, (x, direction) -> x.step(0, direction), "4,4:"));
        document.says("Returns 0 if the step is made; otherwise the reason, 1 to 4.", this::stepReturns);
        document.says("Throws `IndexOutOfBoundsException` if there is no such path",
                () -> edges.noSuchPath("step", (x, path) -> x.step(path, RIGHT)));
        document.says("Throws `IllegalArgumentException` if direction is not 0 to 3", () ->
                edges.throwsArgument("the direction", 0, 3, (x, direction) -> x.step(0, direction), "4,4:"));
    }

    private void stepAddsASite() {
        LatticePaths x = Look.with("4,4:R", "5,3:");
        x.step(0, DOWN);
        due.tells("one that is made", "2 4 1 0 0 3 0 error 0 [44 45 55] [35]", Look.at(x));
        x.step(0, UP);
        x.step(1, DOWN);
        due.tells("two that are refused", "2 4 1 2 0 5 0 error 0 [44 45 55] [35]", Look.at(x));
        due.tells("what stands on the sites", Look.sitesOfPaths(x), Look.marks(x));
    }

    private void stepIsUndoable() {
        LatticePaths x = Look.with("0,0:R", "1,1:");
        edges.undoable("a step that is made", x, () -> x.step(0, RIGHT));
        edges.undoable("a step that is refused for 1", x, () -> x.step(0, UP));
        edges.undoable("a step that is refused for 2", x, () -> x.step(0, LEFT));
        edges.undoable("a step that is refused for 3", x, () -> x.step(0, DOWN));
        LatticePaths full = Look.with(Look.snake(60));
        edges.undoable("a step that is refused for 4", full, () -> full.step(0, DOWN));
    }

    private void stepReturns() {
        LatticePaths x = Look.with(Look.snake(59), "0,6:", "9,9:");
        due.answers("a step that is made", 0, x.step(0, LEFT));
        due.answers("a step off the lattice", 1, x.step(2, DOWN));
        due.answers("a step onto itself", 2, x.step(0, RIGHT));
        due.answers("a step onto another", 3, x.step(0, DOWN));
        x.remove(1);
        due.answers("a step of 60 sites", 4, x.step(0, DOWN));
    }

    // ---- promise 4

    private void back() {
        document.under("Promise 4");
        document.says("Takes the head of a path away; the site before it is its head then.", this::backTakesTheHead);
        document.says("Undoable.", () -> {
            LatticePaths x = Look.with("0,0:R");
            edges.undoable("back", x, () -> x.back(0));
            LatticePaths full = Look.with(Look.snake(60));
            edges.undoable("back of 60 sites", full, () -> full.back(0));
        });
        document.says("- `path`: its number", () -> {
            edges.eachPath("back", (x, path) -> x.back(path), 1, 2, 3, 4, 5);
            edges.eachPathThen("the sites then", (x, path) -> x.back(path), (x, path) -> x.path(path, 0),
                    1, 2, 3, 4, 5);
        });
        document.says("Returns the number of its sites that are left.", () -> {
            LatticePaths x = Look.with(Look.snake(60));
            for (int left = 59; left >= 1; left--) {
                due.answers("back", left, x.back(0));
            }
        });
        document.says("Throws `IndexOutOfBoundsException` if there is no such path",
                () -> edges.noSuchPath("back", (x, path) -> x.back(path)));
        document.says("Throws `IllegalStateException` if it has only one site", () -> {
            LatticePaths x = Look.with("4,4:R", "0,0:");
            due.throwsState(x, "back of one site that was started", () -> x.back(1));
            due.answers("back of two sites", 1, x.back(0));
            due.throwsState(x, "back of one site that is left", () -> x.back(0));
        });
    }

    private void backTakesTheHead() {
        LatticePaths x = Look.with("4,4:RD");
        x.back(0);
        due.tells("all", "1 2 0 0 0 2 0 error 0 [44 45]", Look.at(x));
        due.answers("the path where the head was", -1, x.site(5, 5, 0));
        due.answers("the directions from the head", 1 + 2 + 4, x.path(0, 6));
        due.answers("the step from the new head", 0, x.step(0, UP));
    }

    // ---- promise 5

    private void slither() {
        document.under("Promise 5");
        document.says("Moves a path one step forward: first its tail is taken away (so its site is free, and the path"
                + " does not have 60 sites), then its head makes a step (a path with one site moves to the neighbour"
                + " of this site).", this::slitherMoves);
        document.says("If the step is refused, the path stays as it was.", this::slitherRefused);
        document.says("Undoable, also if it is refused.", this::slitherIsUndoable);
        document.says("- `path`: its number", () -> {
            edges.eachPath("slither right", (x, path) -> x.slither(path, RIGHT), 0, 0, 2, 0, 1);
            edges.eachPathThen("its tail then", (x, path) -> x.slither(path, RIGHT), (x, path) -> x.place(path, 0),
                    1, 23, 26, 61, 74);
        });
        document.says("- `direction`: 0 to 3, from the head", this::slitherDirections);
        document.says("Returns 0 if it is moved; otherwise the reason, 1 to 3.", this::slitherReturns);
        document.says("Throws `IndexOutOfBoundsException` if there is no such path",
                () -> edges.noSuchPath("slither", (x, path) -> x.slither(path, RIGHT)));
        document.says("Throws `IllegalArgumentException` if direction is not 0 to 3", () ->
                edges.throwsArgument("the direction", 0, 3, (x, direction) -> x.slither(0, direction), "4,4:R"));
    }

    private void slitherMoves() {
        LatticePaths x = Look.with("4,4:RD");
        x.slither(0, DOWN);
        due.tells("a path of three sites", "1 3 1 0 0 2 0 error 0 [45 55 65]", Look.at(x));
        due.answers("the path where the tail was", -1, x.site(4, 4, 0));
        LatticePaths ring = Look.with("0,0:RDL");
        ring.slither(0, UP);
        due.tells("the head comes to where the tail was", "1 11 10 0", Look.sites(ring, 0));
        LatticePaths full = Look.with(Look.snake(60));
        full.slither(0, DOWN);
        due.answers("the sites of 60", 60, full.path(0, 0));
        due.answers("their tail", 1, full.place(0, 0));
        due.answers("their head", 60, full.place(0, 59));
        LatticePaths round = Look.with(Look.ring());
        due.answers("the step of a ring of 60 sites", 2, round.step(0, UP));
        due.answers("its slither", 0, round.slither(0, UP));
        due.answers("its tail", 1, round.place(0, 0));
        due.answers("its head", 0, round.place(0, 59));
        LatticePaths one = Look.with("4,4:");
        one.slither(0, LEFT);
        due.tells("a path of one site", "43", Look.sites(one, 0));
        LatticePaths two = Look.with("4,4:R");
        two.slither(0, LEFT);
        due.tells("a path of two sites turns round", "45 44", Look.sites(two, 0));
        due.tells("what stands on the sites", Look.sitesOfPaths(two), Look.marks(two));
    }

    private void slitherRefused() {
        LatticePaths x = Look.with("1,0:RDLL", "0,2:", "9,9:");
        slitherRefusedFor(1, x, 0, LEFT);
        slitherRefusedFor(2, x, 0, RIGHT);
        slitherRefusedFor(3, x, 0, DOWN);
        slitherRefusedFor(1, x, 2, RIGHT);
        slitherRefusedFor(3, Look.with("4,4:", "4,3:"), 0, UP);
        LatticePaths full = Look.with(Look.snake(60), "0,6:");
        slitherRefusedFor(1, full, 0, LEFT);
        slitherRefusedFor(2, full, 0, UP);
        slitherRefusedFor(3, full, 0, DOWN);
    }

    private void slitherRefusedFor(int reason, LatticePaths x, int path, int direction) {
        String before = Look.sitesOfPaths(x);
        due.answers("slither", reason, x.slither(path, direction));
        due.tells("the paths behind a refusal for " + reason, before, Look.sitesOfPaths(x));
        due.tells("what stands on the sites then", before, Look.marks(x));
    }

    private void slitherIsUndoable() {
        LatticePaths x = Look.with("0,0:RR", "2,1:");
        edges.undoable("a slither that is made", x, () -> x.slither(0, RIGHT));
        edges.undoable("a slither that is refused for 1", x, () -> x.slither(0, UP));
        edges.undoable("a slither that is refused for 2", x, () -> x.slither(0, LEFT));
        edges.undoable("a slither that is refused for 3", x, () -> x.slither(0, DOWN));
        edges.undoable("a slither of one site", x, () -> x.slither(1, DOWN));
    }

    private void slitherDirections() {
        edges.takes("the direction", 0, 3, (x, direction) -> x.slither(0, direction), "4,4:R");
        // to the left there is the site before the head
        int[] heads = {26, 37, 46, 36};
        for (int direction = 0; direction < 4; direction++) {
            LatticePaths x = Look.with("3,3:RRR");
            x.slither(0, direction);
            due.answers("the head behind the direction " + direction, heads[direction], x.place(0, 3));
        }
    }

    private void slitherReturns() {
        LatticePaths x = Look.with("0,0:RR", "2,1:");
        due.answers("off the lattice", 1, x.slither(0, UP));
        due.answers("onto itself", 2, x.slither(0, LEFT));
        due.answers("onto another", 3, x.slither(0, DOWN));
        due.answers("a free way", 0, x.slither(0, RIGHT));
        LatticePaths full = Look.with(Look.snake(60));
        due.answers("60 sites, which are never refused for 4", 0, full.slither(0, DOWN));
    }
}
