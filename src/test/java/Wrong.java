/** Calls of which each throws in some states: one or more for each thing that a throws clause of the document names. */
final class Wrong {
    interface Call {
        double on(LatticePaths x);
    }

    private static final Call[] CALLS = {
        x -> x.start(10, 0), x -> x.start(0, -1), x -> x.start(0, 0), x -> x.start(5, 9),
        x -> x.step(5, 0), x -> x.step(0, 4), x -> x.back(5), x -> x.back(1), x -> x.slither(5, 0),
        x -> x.slither(0, -1), x -> x.turn(5, 0, 1), x -> x.turn(0, 60, 1), x -> x.turn(0, 0, 0), x -> x.turn(0, 0, 4),
        x -> x.reverse(5), x -> x.join(0, 5), x -> x.join(5, 0), x -> x.join(0, 0), x -> x.join(0, 1),
        x -> x.split(5, 0), x -> x.split(0, -1), x -> x.split(0, x.path(0, 0) - 1), x -> x.split(2, 0),
        x -> x.remove(5), x -> x.remove(-1), x -> x.append(32), x -> x.append(127), x -> x.append('U'), x -> x.draw(),
        x -> x.write(5), x -> x.undo(), x -> x.keep(-1), x -> x.keep(2), x -> x.goBack(0), x -> x.goBack(2),
        x -> x.site(10, 0, 0), x -> x.site(0, 0, 3), x -> x.place(5, 0), x -> x.path(5, 0), x -> x.path(0, 9),
        x -> x.touching(0, 5), x -> x.touching(5, 0), x -> x.touching(0, 0), x -> x.shape(5, 0), x -> x.shape(0, -1),
        x -> x.isAlike(0, 5) ? 1 : 0, x -> x.isAlike(5, 0) ? 1 : 0, x -> x.free(4), x -> x.ways(5, 0),
        x -> x.ways(0, 7), x -> x.bestStep(5), x -> x.reach(5), x -> x.ifTurned(5, 0, 1), x -> x.ifTurned(0, 60, 1),
        x -> x.ifTurned(0, 0, 0), x -> x.turnable(5), x -> x.count(7), x -> x.spread(5),
    };

    private Wrong() {
    }

    static int calls() {
        return CALLS.length;
    }

    static boolean isThrown(LatticePaths x, int call) {
        try {
            CALLS[call].on(x);
            return false;
        } catch (RuntimeException thrown) {
            return true;
        }
    }
}
