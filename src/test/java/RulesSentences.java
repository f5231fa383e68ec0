import java.util.Arrays;

/** The sentences of the terms "Undo and snapshots" and "Exceptions". */
final class RulesSentences {
    private static final int UP = 0;
    private static final int RIGHT = 1;
    private static final int DOWN = 2;
    private static final int LEFT = 3;

    private final Due due;
    private final Sentences document;
    private final Edges edges;

    RulesSentences(Due due, Sentences document) {
        this.due = due;
        this.document = document;
        this.edges = new Edges(due);
    }

    void test() {
        undoAndSnapshots();
        exceptions();
        interfaceParts();
    }

    // ---- undo and snapshots

    private void undoAndSnapshots() {
        document.under("Undo and snapshots");
        document.says("The state consists of everything except the buffer, the saved states and the snapshots.",
                this::whatTheStateIs);
        document.says("Each method that is marked \"Undoable\" saves the state from before the call if it does not"
                + " throw an exception, even if nothing changes.", this::whatIsSaved);
        document.says("At most 6 states are saved; when one more is saved, the oldest one is dropped.",
                this::sixStates);
        document.says("There are two snapshot slots, which are empty at first.", this::twoSlots);
    }

    private void whatTheStateIs() {
        LatticePaths x = Look.with("0,0:R", "9,9:");
        x.keep(0);
        Look.type(x, "4,x");
        x.step(0, RIGHT);
        x.turn(0, 1, 1);
        x.step(1, RIGHT);
        x.keep(1);
        x.append('y');
        due.tells("all", "2 4 1 1 1 5 4 error 2 [0 1 11] [99]", Look.at(x));
        x.undo();
        due.tells("undone to before the refusal", "2 4 1 0 1 4 4 error 2 [0 1 11] [99]", Look.at(x));
        x.undo();
        x.undo();
        due.tells("undone to before the step", "2 3 0 0 0 2 4 error 2 [0 1] [99]", Look.at(x));
        x.goBack(1);
        due.tells("back to what the slot holds", "2 4 1 1 1 3 4 error 2 [0 1 11] [99]", Look.at(x));
        x.clearBuffer();
        x.goBack(0);
        due.tells("back to the other slot", "2 3 0 0 0 4 0 error 0 [0 1] [99]", Look.at(x));
        Look.type(x, "5,5:U");
        x.draw();
        x.undo();
        due.answers("the buffer behind the undo of draw", 0, x.count(6));
    }

    private void whatIsSaved() {
        LatticePaths x = Look.with("0,0:R", "1,1:", "0,1:");
        edges.undoable("a step off the lattice", x, () -> x.step(0, UP));
        edges.undoable("a step onto itself", x, () -> x.step(0, LEFT));
        edges.undoable("a step onto another", x, () -> x.step(0, DOWN));
        edges.undoable("a slither off the lattice", x, () -> x.slither(0, UP));
        edges.undoable("a slither onto another", x, () -> x.slither(0, DOWN));
        edges.undoable("a turn off the lattice", x, () -> x.turn(0, 0, 2));
        edges.undoable("a turn onto another", x, () -> x.turn(0, 0, 1));
        edges.undoable("a turn about a head", x, () -> x.turn(0, 1, 3));
        edges.undoable("the reversal of one site", x, () -> x.reverse(1));
        x.keep(0);
        edges.undoable("going back to what is there", x, () -> x.goBack(0));
        due.throwsState(x, "a start that throws", () -> x.start(0, 0));
        due.throwsState(x, "a back that throws", () -> x.back(1));
        due.throwsArgument(x, "a step that throws", () -> x.step(0, 4));
        due.throwsArgument(x, "a join that throws", () -> x.join(1, 1));
        due.throwsArgument(x, "a draw that throws", () -> x.draw());
        due.answers("the saved states then", 3, x.count(5));
    }

    private void sixStates() {
        for (int calls = 1; calls <= 14; calls++) {
            LatticePaths x = new LatticePaths();
            x.start(0, 0);
            for (int call = 1; call < calls; call++) {
                x.step(0, call < 10 ? RIGHT : DOWN);
            }
            int saved = Math.min(calls, 6);
            due.answers("the saved states after " + calls + " calls", saved, x.count(5));
            for (int left = saved - 1; left >= 0; left--) {
                due.answers("undo", left, x.undo());
                due.answers("the sites then", left + calls - saved, x.count(1));
            }
            due.throwsState(x, "undo of what was dropped", () -> x.undo());
        }
        seventhState("start", x -> x.start(9, 0));
        seventhState("step", x -> x.step(0, RIGHT));
        seventhState("a refused step", x -> x.step(0, LEFT));
        seventhState("back", x -> x.back(0));
        seventhState("slither", x -> x.slither(1, DOWN));
        seventhState("a refused slither", x -> x.slither(1, UP));
        seventhState("turn", x -> x.turn(0, 0, 1));
        seventhState("a refused turn", x -> x.turn(0, 0, 2));
        seventhState("turn about a head", x -> x.turn(0, 1, 3));
        seventhState("reverse", x -> x.reverse(0));
        seventhState("join", x -> x.join(0, 1));
        seventhState("split", x -> x.split(0, 0));
        seventhState("remove", x -> x.remove(0));
        seventhState("draw", x -> x.draw());
        seventhState("goBack", x -> x.goBack(0));
    }

    /** An undoable call where 6 states are saved: the oldest one is dropped, so that 6 times undo end behind it. */
    private void seventhState(String what, Wrong.Call call) {
        LatticePaths x = new LatticePaths();
        x.keep(0);
        x.start(0, 0);
        x.step(0, RIGHT);
        x.start(1, 1);
        x.turn(1, 0, 1);
        x.slither(1, RIGHT);
        x.slither(1, LEFT);
        Look.type(x, "9,9:L");
        due.answers("the saved states before " + what, 6, x.count(5));
        String before = Look.at(x);
        call.on(x);
        due.answers("the saved states behind " + what, 6, x.count(5));
        int buffer = x.count(6);
        due.answers("the undo of " + what, 5, x.undo());
        Look.type(x, "9,9:L");
        due.holds("the buffer is cleared by draw alone", (buffer == 0) == what.equals("draw"));
        due.tells("the state before " + what, before.replace(" 6 5 error", " 5 5 error"), Look.at(x));
        for (int left = 4; left >= 0; left--) {
            due.answers("undo", left, x.undo());
        }
        due.tells("the oldest state that is left", "1 1 0 0 0 0 5 error 5 [0]", Look.at(x));
        due.throwsState(x, "undo of what was dropped", () -> x.undo());
    }

    private void twoSlots() {
        LatticePaths x = new LatticePaths();
        due.throwsState(x, "the first slot at first", () -> x.goBack(0));
        due.throwsState(x, "the second slot at first", () -> x.goBack(1));
        due.throwsArgument(x, "a third slot", () -> x.keep(2));
        x.keep(0);
        x.start(1, 1);
        due.throwsState(x, "the second slot behind keep(0)", () -> x.goBack(1));
        x.keep(1);
        due.answers("the first slot", 0, x.goBack(0));
        due.answers("the second slot", 1, x.goBack(1));
    }

    // ---- exceptions

    private void exceptions() {
        document.under("Exceptions");
        document.says("A call that throws an exception changes nothing.", this::throwsChangeNothing);
        document.says("If more than one exception applies to a call, the one that its throws clause lists first is"
                + " thrown.", this::orderOfExceptions);
        document.says("The constants: `NONE = -1`: There is no such number.", this::none);
    }

    private void throwsChangeNothing() {
        for (int call = 0; call < Wrong.calls(); call++) {
            int thrown = 0;
            for (int kind = 0; kind < 5; kind++) {
                LatticePaths x = someObject(kind);
                if (Wrong.isThrown(x, call)) {
                    thrown++;
                    String what = "all that is held behind wrong call " + call + " of object " + kind;
                    due.tells(what, Look.drained(someObject(kind)), Look.drained(x));
                }
            }
            due.holds("wrong call " + call + " throws", thrown > 0);
        }
    }

    private static LatticePaths someObject(int kind) {
        switch (kind) {
            case 0:
                return moved("U".repeat(70), Edges.FIVE);
            case 1:
                return moved("3,3:URDx", "0,0:R", "9,9:", "5,5:URDDL");
            case 2:
                return typed("3,3:URDx", "0,0:R", "9,9:", "5,5:URDDL");
            case 3:
                return typed("0,0:RR", Look.snake(60), "0,6:");
            default:
                return new LatticePaths();
        }
    }

    private static LatticePaths typed(String text, String... paths) {
        LatticePaths x = Look.with(paths);
        Look.type(x, text);
        return x;
    }

    private static LatticePaths moved(String text, String... paths) {
        LatticePaths x = typed(text, paths);
        x.keep(1);
        x.step(0, RIGHT);
        x.turn(0, 0, 1);
        x.step(0, UP);
        x.slither(0, DOWN);
        return x;
    }

    private void orderOfExceptions() {
        LatticePaths x = Look.with(Edges.FIVE);
        Look.type(x, "0,0:R" + "x".repeat(65));
        due.throwsIndex(x, "start at no site, with 5 paths", () -> x.start(10, 0));
        due.throwsIndex(x, "step of no path in no direction", () -> x.step(5, 4));
        due.throwsIndex(x, "slither of no path in no direction", () -> x.slither(-1, -1));
        due.throwsIndex(x, "turn of no path by no quarter", () -> x.turn(5, 0, 0));
        due.throwsIndex(x, "turn about no site by no quarter", () -> x.turn(0, 2, 4));
        due.throwsIndex(x, "join of no path with itself", () -> x.join(5, 5));
        due.throwsArgument(x, "join of a path with itself, whose heads are no neighbours", () -> x.join(1, 1));
        due.throwsIndex(x, "split of no path, with 5 paths", () -> x.split(5, 0));
        due.throwsIndex(x, "split at no site, with 5 paths", () -> x.split(0, -1));
        due.throwsIndex(x, "split at a head, with 5 paths", () -> x.split(0, 1));
        due.throwsArgument(x, "append of no character to a full buffer", () -> x.append(127));
        due.throwsArgument(x, "draw of no path text, with 5 paths", () -> x.draw());
        due.throwsArgument(x, "goBack to no slot", () -> x.goBack(2));
        due.throwsIndex(x, "nothing of no site", () -> x.site(0, 10, 3));
        due.throwsIndex(x, "nothing of no path", () -> x.path(5, 9));
        due.throwsIndex(x, "touching of no path with itself", () -> x.touching(5, 5));
        due.throwsIndex(x, "a negative step of the shape of no path", () -> x.shape(5, -1));
        due.throwsIndex(x, "7 steps of no path", () -> x.ways(5, 7));
        due.throwsIndex(x, "ifTurned of no path by no quarter", () -> x.ifTurned(5, 0, 0));
        due.throwsIndex(x, "ifTurned about no site by no quarter", () -> x.ifTurned(4, 6, 4));
        LatticePaths many = Look.with(Look.snake(60));
        due.throwsArgument(many, "join of 60 sites with themselves", () -> many.join(0, 0));
    }

    private void none() {
        due.answers("NONE", -1, LatticePaths.NONE);
        LatticePaths x = Look.with("0,1:RUL");
        due.answers("the path of a free site", LatticePaths.NONE, x.site(5, 5, 0));
        due.answers("the number of a free site", LatticePaths.NONE, x.site(5, 5, 1));
        due.answers("the place behind the head", LatticePaths.NONE, x.place(0, 4));
        due.answers("the step behind the last one", LatticePaths.NONE, x.shape(0, 3));
        due.answers("the best step of a trapped path", LatticePaths.NONE, x.bestStep(0));
    }

    // ---- the parts of the interface

    private void interfaceParts() {
        document.says("Ahead of the calls `start`, `step`, `back`, `slither`, `turn`, `reverse`, `join`, `split`,"
                + " `remove` the interface says: ---- paths.",
                () -> areThere("start", "step", "back", "slither", "turn", "reverse",
                "join", "split", "remove"));
        document.says("Ahead of the calls `append`, `clearBuffer`, `firstError`, `draw`, `write` the interface says:"
                + " ---- path text.", () -> areThere("append", "clearBuffer", "firstError", "draw", "write"));
        document.says("Ahead of the calls `undo`, `keep`, `goBack` the interface says: ---- undo and snapshots.",
                () -> areThere("undo", "keep", "goBack"));
        document.says("Ahead of the calls `site`, `place`, `path`, `trapped`, `touching`, `shape`, `isAlike`, `free`"
                + " the interface says: ---- queries about sites and paths; nothing changes.",
                this::queriesChangeNothing);
        document.says("Ahead of the calls `ways`, `bestStep`, `reach`, `ifTurned`, `turnable`, `count`, `spread`,"
                + " `share` the interface says: ---- what would be; nothing changes.", this::outlooksChangeNothing);
    }

    private void areThere(String... names) {
        for (String name : names) {
            due.answers("the methods with the name " + name, 1, Arrays.stream(LatticePaths.class.getDeclaredMethods())
                    .filter(method -> method.getName().equals(name)).count());
        }
    }

    private void queriesChangeNothing() {
        LatticePaths x = someObject(0);
        for (int path = 0; path < 5; path++) {
            for (int what = 0; what <= 8; what++) {
                x.path(path, what);
            }
            x.place(path, 0);
            x.shape(path, 1);
            x.touching(path, (path + 1) % 5);
            x.isAlike(path, (path + 1) % 5);
        }
        for (int what = 0; what <= 3; what++) {
            x.free(what);
            x.site(0, 0, Math.min(what, 2));
        }
        x.trapped();
        due.tells("all that is held", Look.drained(someObject(0)), Look.drained(x));
    }

    private void outlooksChangeNothing() {
        LatticePaths x = someObject(0);
        for (int path = 0; path < 5; path++) {
            x.ways(path, 6);
            x.bestStep(path);
            x.reach(path);
            x.ifTurned(path, 0, 1);
            x.ifTurned(path, 0, 2);
            x.ifTurned(path, 0, 3);
            x.turnable(path);
            x.spread(path);
        }
        for (int what = 0; what <= 6; what++) {
            x.count(what);
        }
        x.share();
        due.tells("all that is held", Look.drained(someObject(0)), Look.drained(x));
    }
}
