/** Promises 16 to 18: states that are saved, undone, kept and gone back to. */
public final class UndoTest {
    private static final Due due = new Due("UndoTest");

    public static void main(String[] args) {
        eachUndoableCall();
        refusedCalls();
        callsThatSaveNothing();
        undoneToTheStart();
        sevenStates();
        counters();
        buffer();
        keep();
        goBack();
        goBackIsUndoable();
        snapshotsOutsideTheState();
        wrongly();
        due.end();
    }

    /** A call that is undoable, and what it is called. */
    private static void undone(String what, Due.Call call, LatticePaths x) {
        String before = Look.at(x);
        int saved = x.count(5);
        call.answer();
        due.answers("the saved states after " + what, saved + 1, x.count(5));
        due.answers("undo of " + what, saved, x.undo());
        due.tells("the state after the undo of " + what, before, Look.at(x));
    }

    private static void eachUndoableCall() {
        LatticePaths x = Look.with("2,2:RRDD", "5,5:LL", "9,0:");
        undone("start", () -> x.start(0, 0), x);
        undone("step", () -> x.step(0, 2), x);
        undone("back", () -> x.back(0), x);
        undone("slither", () -> x.slither(0, 2), x);
        undone("slither of one site", () -> x.slither(2, 2), x);
        undone("turn", () -> x.turn(0, 2, 3), x);
        undone("turn about the head", () -> x.turn(0, 4, 1), x);
        undone("reverse", () -> x.reverse(0), x);
        undone("split", () -> x.split(0, 1), x);
        undone("remove", () -> x.remove(0), x);
        LatticePaths y = Look.with("0,0:R", "3,0:L", "9,9:");
        undone("join", () -> y.join(1, 0), y);
        LatticePaths five = Look.with("0,0:R", "3,0:L", "9,9:", "5,5:RRU", "0,9:UU");
        undone("remove of one of five", () -> five.remove(4), five);
        undone("join of two of five", () -> five.join(0, 1), five);
        undone("step of the last of five", () -> five.step(4, 0), five);
        LatticePaths z = Look.with("0,0:R");
        Look.type(z, "5,5:U");
        z.draw();
        due.answers("undo of draw", 1, z.undo());
        due.tells("the state after the undo of draw", "1 2 0 0 0 1 0 error 0 [0 1]", Look.at(z));
    }

    private static void refusedCalls() {
        LatticePaths x = Look.with("0,0:R", "0,1:R");
        undone("a step off the lattice", () -> x.step(0, 0), x);
        undone("a step onto itself", () -> x.step(0, 3), x);
        undone("a step onto another", () -> x.step(0, 2), x);
        undone("a slither off the lattice", () -> x.slither(0, 0), x);
        undone("a slither onto another", () -> x.slither(0, 2), x);
        undone("a turn off the lattice", () -> x.turn(0, 0, 2), x);
        undone("a turn onto another", () -> x.turn(0, 0, 1), x);
    }

    private static void callsThatSaveNothing() {
        LatticePaths x = Look.with("2,2:RRDD", "5,5:LL");
        Look.type(x, "1,1:");
        x.firstError();
        x.write(0);
        x.clearBuffer();
        x.keep(0);
        x.site(0, 0, 2);
        x.place(0, 0);
        x.path(0, 8);
        x.trapped();
        x.touching(0, 1);
        x.shape(0, 0);
        x.isAlike(0, 1);
        x.free(3);
        x.ways(0, 6);
        x.bestStep(0);
        x.reach(0);
        x.ifTurned(0, 0, 1);
        x.turnable(0);
        x.spread(0);
        x.share();
        due.tells("all", "2 8 0 0 0 2 0 error 0 [22 23 24 34 44] [55 54 53]", Look.at(x));
        due.throwsState(x, "a start that throws", () -> x.start(2, 2));
        due.throwsIndex(x, "a step that throws", () -> x.step(2, 0));
        due.throwsArgument(x, "a turn that throws", () -> x.turn(0, 0, 0));
        due.answers("the saved states", 2, x.count(5));
    }

    private static void undoneToTheStart() {
        LatticePaths x = Look.with("2,2:R");
        x.step(0, 1);
        due.answers("the first undo", 1, x.undo());
        due.answers("the second undo", 0, x.undo());
        due.answers("the paths", 0, x.count(0));
        due.answers("the path at a site that was left", -1, x.site(2, 2, 0));
        due.throwsState(x, "the third undo", () -> x.undo());
        due.answers("a start afterwards", 0, x.start(2, 2));
        due.answers("the saved states", 1, x.count(5));
    }

    private static void sevenStates() {
        LatticePaths x = Look.with("0,0:");
        for (int step = 0; step < 8; step++) {
            x.step(0, 1);
            due.answers("the saved states after step " + step, step < 4 ? step + 2 : 6, x.count(5));
        }
        for (int left = 5; left >= 0; left--) {
            due.answers("undo", left, x.undo());
            due.answers("the sites", left + 3, x.path(0, 0));
            due.answers("the head", left + 2, x.place(0, left + 2));
        }
        due.throwsState(x, "a seventh undo", () -> x.undo());
        due.answers("the sites that are left", 3, x.path(0, 0));
        x.step(0, 2);
        x.step(0, 2);
        due.answers("undo of a later step", 1, x.undo());
        due.tells("its sites", "0 1 2 12", Look.sites(x, 0));
    }

    private static void counters() {
        LatticePaths x = Look.with("0,0:R");
        x.step(0, 1);
        x.step(0, 0);
        x.turn(0, 1, 1);
        due.tells("all", "1 3 1 1 1 4 0 error 0 [0 1 11]", Look.at(x));
        x.undo();
        due.tells("without the turn", "1 3 1 1 0 3 0 error 0 [0 1 2]", Look.at(x));
        x.undo();
        due.tells("without the refusal", "1 3 1 0 0 2 0 error 0 [0 1 2]", Look.at(x));
        x.undo();
        due.tells("without the step", "1 2 0 0 0 1 0 error 0 [0 1]", Look.at(x));
    }

    private static void buffer() {
        LatticePaths x = Look.with("0,0:R");
        Look.type(x, "1,x");
        x.keep(0);
        x.step(0, 1);
        x.append('y');
        x.undo();
        due.answers("the buffer after undo", 4, x.count(6));
        due.answers("its error after undo", 2, x.firstError());
        x.clearBuffer();
        x.goBack(0);
        due.answers("the buffer after goBack", 0, x.count(6));
        x.append('7');
        x.undo();
        due.answers("the buffer after the undo of goBack", 1, x.count(6));
    }

    private static void keep() {
        LatticePaths x = new LatticePaths();
        due.answers("keep of nothing", 0, x.keep(1));
        x.start(0, 0);
        x.start(5, 5);
        due.answers("keep of two", 2, x.keep(0));
        due.answers("keeping saves no state", 2, x.count(5));
        due.answers("goBack to nothing", 0, x.goBack(1));
        due.answers("goBack to two", 2, x.goBack(0));
        x.remove(0);
        due.answers("keep in the same slot", 1, x.keep(0));
        x.remove(0);
        due.answers("goBack to what replaced it", 1, x.goBack(0));
        due.tells("its sites", "55", Look.sites(x, 0));
    }

    private static void goBack() {
        LatticePaths x = Look.with("0,0:R", "5,5:");
        x.step(0, 1);
        x.step(0, 0);
        x.turn(0, 2, 1);
        x.keep(1);
        x.step(1, 1);
        x.remove(0);
        x.turn(0, 0, 1);
        due.answers("goBack", 2, x.goBack(1));
        due.tells("all", "2 4 1 1 1 6 0 error 0 [0 1 2] [55]", Look.at(x));
        x.remove(0);
        x.remove(0);
        due.answers("goBack again", 2, x.goBack(1));
        due.tells("all again", "2 4 1 1 1 6 0 error 0 [0 1 2] [55]", Look.at(x));
        due.answers("the path at a site", 1, x.site(5, 5, 0));
        due.answers("the free sites", 96, x.free(0));
    }

    private static void goBackIsUndoable() {
        LatticePaths x = Look.with("0,0:R");
        x.keep(0);
        x.step(0, 1);
        undone("goBack", () -> x.goBack(0), x);
        due.answers("the slot after the undo", 1, x.goBack(0));
        due.tells("its sites", "0 1", Look.sites(x, 0));
        x.goBack(0);
        due.answers("a goBack that changes nothing is saved too", 4, x.count(5));
    }

    private static void snapshotsOutsideTheState() {
        LatticePaths x = Look.with("0,0:R");
        x.step(0, 1);
        x.keep(0);
        x.undo();
        x.undo();
        due.answers("goBack to what was undone", 1, x.goBack(0));
        due.tells("its sites", "0 1 2", Look.sites(x, 0));
        x.keep(1);
        x.goBack(0);
        x.step(0, 2);
        due.answers("a later step is not in the slot", 1, x.goBack(1));
        due.tells("its sites", "0 1 2", Look.sites(x, 0));
    }

    private static void wrongly() {
        LatticePaths x = Look.with("0,0:R");
        due.throwsArgument(x, "keep(-1)", () -> x.keep(-1));
        due.throwsArgument(x, "keep(2)", () -> x.keep(2));
        due.throwsArgument(x, "goBack(-1)", () -> x.goBack(-1));
        due.throwsArgument(x, "goBack(2)", () -> x.goBack(2));
        due.throwsState(x, "goBack(0)", () -> x.goBack(0));
        due.throwsState(x, "goBack(1)", () -> x.goBack(1));
        x.keep(1);
        due.throwsState(x, "goBack(0) with the other slot filled", () -> x.goBack(0));
        due.answers("goBack(1)", 1, x.goBack(1));
    }
}
