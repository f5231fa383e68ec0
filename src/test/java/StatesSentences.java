/** The sentences of promises 16 to 18. */
final class StatesSentences {
    private static final int RIGHT = 1;
    private static final int LEFT = 3;

    private final Due due;
    private final Sentences document;
    private final Edges edges;

    StatesSentences(Due due, Sentences document) {
        this.due = due;
        this.document = document;
        this.edges = new Edges(due);
    }

    void test() {
        undo();
        keep();
        goBack();
    }

    /** A path that grows to the right, by so many calls. */
    private static LatticePaths grown(int calls) {
        LatticePaths x = new LatticePaths();
        for (int call = 0; call < calls; call++) {
            if (call == 0) {
                x.start(0, 4);
            } else {
                x.step(0, RIGHT);
            }
        }
        return x;
    }

    // ---- promise 16

    private void undo() {
        document.under("Promise 16");
        document.says("Restores the state that was saved last, and removes it from the saved states.",
                this::undoRestores);
        document.says("Returns the number of saved states that are left.", () -> {
            for (int calls = 1; calls <= 9; calls++) {
                LatticePaths x = grown(calls);
                for (int left = Math.min(calls, 6) - 1; left >= 0; left--) {
                    due.answers("undo of " + calls + " calls", left, x.undo());
                    due.answers("the saved states", left, x.count(5));
                }
            }
        });
        document.says("Throws `IllegalStateException` if no state is saved", () -> {
            LatticePaths x = new LatticePaths();
            due.throwsState(x, "undo of nothing", () -> x.undo());
            x.append('7');
            x.keep(0);
            due.throwsState(x, "undo of calls that save nothing", () -> x.undo());
            due.throwsState(x, "a call that throws", () -> x.goBack(1));
            due.throwsState(x, "undo of a call that throws", () -> x.undo());
            x.start(0, 0);
            x.undo();
            due.throwsState(x, "undo of the undo", () -> x.undo());
            LatticePaths many = grown(9);
            for (int call = 0; call < 6; call++) {
                many.undo();
            }
            due.throwsState(many, "undo of what was dropped", () -> many.undo());
        });
    }

    private void undoRestores() {
        LatticePaths x = Look.with("0,0:R", "9,9:");
        x.step(0, RIGHT);
        x.remove(1);
        x.turn(0, 1, 1);
        x.slither(0, LEFT);
        String[] states = {
            "1 3 2 0 1 6 0 error 0 [1 11 10]",
            "1 3 1 0 1 5 0 error 0 [0 1 11]",
            "1 3 1 0 0 4 0 error 0 [0 1 2]",
            "2 4 1 0 0 3 0 error 0 [0 1 2] [99]",
            "2 3 0 0 0 2 0 error 0 [0 1] [99]",
            "1 2 0 0 0 1 0 error 0 [0 1]",
            "0 0 0 0 0 0 0 error 0",
        };
        for (int state = 0; state < states.length; state++) {
            due.tells("the state after " + state + " times undo", states[state], Look.at(x));
            due.tells("what stands on the sites", Look.sitesOfPaths(x), Look.marks(x));
            if (state < states.length - 1) {
                x.undo();
            }
        }
        due.answers("a start afterwards", 0, x.start(9, 9));
        due.answers("undo of it", 0, x.undo());
        due.answers("the paths", 0, x.count(0));
    }

    // ---- promise 17

    private void keep() {
        document.under("Promise 17");
        document.says("Takes a snapshot of the state, which replaces the one in the slot.", () -> {
            for (int slot = 0; slot <= 1; slot++) {
                LatticePaths x = grown(3);
                x.keep(slot);
                x.step(0, RIGHT);
                x.keep(slot);
                x.step(0, LEFT);
                x.back(0);
                x.goBack(slot);
                due.tells("the later one of slot " + slot, "1 4 3 0 0 6 0 error 0 [40 41 42 43]", Look.at(x));
                int other = 1 - slot;
                due.throwsState(x, "the other slot", () -> x.goBack(other));
            }
            LatticePaths kept = grown(2);
            edges.savesNothing("keep", kept, () -> kept.keep(1));
        });
        document.says("- `slot`: 0 or 1", () -> {
            edges.takes("the slot", 0, 1, (x, slot) -> x.keep(slot), "0,0:");
            LatticePaths x = grown(1);
            x.keep(0);
            x.step(0, RIGHT);
            x.keep(1);
            x.goBack(0);
            due.tells("what the slot 0 holds", "40", Look.sites(x, 0));
            x.goBack(1);
            due.tells("what the slot 1 holds", "40 41", Look.sites(x, 0));
        });
        document.says("Returns the number of paths.", () -> {
            LatticePaths x = new LatticePaths();
            for (int paths = 0; paths <= 5; paths++) {
                due.answers("keep in the slot 0", paths, x.keep(0));
                due.answers("keep in the slot 1", paths, x.keep(1));
                if (paths < 5) {
                    x.start(paths, paths);
                }
            }
        });
        document.says("Throws `IllegalArgumentException` if there is no such slot", () -> {
            edges.throwsArgument("the slot", 0, 1, (x, slot) -> x.keep(slot), "0,0:");
            edges.throwsArgument("the slot", 0, 1, (x, slot) -> x.keep(slot));
        });
    }

    // ---- promise 18

    private void goBack() {
        document.under("Promise 18");
        document.says("Restores a snapshot, which stays in its slot.", this::goBackRestores);
        document.says("Undoable.", this::goBackIsUndoable);
        document.says("- `slot`: 0 or 1", () -> {
            edges.takes("the slot", 0, 1, (x, slot) -> {
                x.keep(slot);
                return x.goBack(slot);
            }, "0,0:");
            LatticePaths x = grown(1);
            x.keep(1);
            x.step(0, RIGHT);
            x.keep(0);
            x.goBack(1);
            due.tells("what the slot 1 holds", "40", Look.sites(x, 0));
            x.goBack(0);
            due.tells("what the slot 0 holds", "40 41", Look.sites(x, 0));
        });
        document.says("Returns the number of paths after the call.", () -> {
            LatticePaths x = new LatticePaths();
            x.keep(0);
            for (int paths = 1; paths <= 5; paths++) {
                x.start(paths, paths);
                x.keep(1);
                due.answers("goBack to none", 0, x.goBack(0));
                due.answers("goBack to " + paths, paths, x.goBack(1));
            }
        });
        document.says("Throws `IllegalArgumentException` if there is no such slot", () -> {
            edges.throwsArgument("the slot", 0, 1, (x, slot) -> x.goBack(slot), "0,0:");
            LatticePaths x = grown(2);
            x.keep(0);
            x.keep(1);
            due.throwsArgument(x, "goBack(2) with both slots taken", () -> x.goBack(2));
            due.throwsArgument(x, "goBack(-1) with both slots taken", () -> x.goBack(-1));
        });
        document.says("Throws `IllegalStateException` if the slot is empty", () -> {
            for (int slot = 0; slot <= 1; slot++) {
                int empty = slot;
                LatticePaths x = grown(2);
                due.throwsState(x, "goBack of an empty slot", () -> x.goBack(empty));
                x.keep(1 - slot);
                due.throwsState(x, "goBack of an empty slot beside one that is taken", () -> x.goBack(empty));
                x.undo();
                due.throwsState(x, "goBack of an empty slot behind undo", () -> x.goBack(empty));
                x.keep(slot);
                due.answers("goBack of a slot that is taken", 1, x.goBack(slot));
            }
        });
    }

    private void goBackRestores() {
        for (int slot = 0; slot <= 1; slot++) {
            LatticePaths x = Look.with("0,0:R", "9,9:");
            x.step(0, RIGHT);
            x.step(1, RIGHT);
            x.turn(0, 1, 1);
            x.keep(slot);
            x.remove(0);
            x.step(0, LEFT);
            for (int time = 0; time < 3; time++) {
                due.answers("goBack", 2, x.goBack(slot));
                due.tells("the state", "2 4 1 1 1 6 0 error 0 [0 1 11] [99]", Look.at(x));
                due.tells("what stands on the sites", Look.sitesOfPaths(x), Look.marks(x));
                x.reverse(0);
                x.step(1, LEFT);
            }
        }
    }

    private void goBackIsUndoable() {
        LatticePaths x = grown(3);
        x.keep(0);
        x.step(0, RIGHT);
        edges.undoable("goBack", x, () -> x.goBack(0));
        due.answers("the slot behind the undo", 1, x.goBack(0));
        edges.undoable("goBack to what is there", x, () -> x.goBack(0));
        due.tells("the sites", "40 41 42", Look.sites(x, 0));
    }
}
