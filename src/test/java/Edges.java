/** The checks at the edges that many promises have in common. Each call has a new object. */
final class Edges {
    /** Five paths of 2 to 6 sites. */
    static final String[] FIVE = {"0,0:R", "2,2:RD", "6,2:RDL", "1,5:DRUU", "4,7:RRRRR"};
    private static final int[] FAR = {Integer.MIN_VALUE, Integer.MIN_VALUE + 1, -1000, 1000, Integer.MAX_VALUE};

    /** A call with one of its arguments left open. */
    interface Ask {
        double of(LatticePaths x, int argument);
    }

    private final Due due;

    Edges(Due due) {
        this.due = due;
    }

    /** What the call answers for each of the numbers 0 to 4 of the five paths. */
    void eachPath(String what, Ask ask, double... want) {
        for (int path = 0; path < 5; path++) {
            due.answers(what + " of path " + path, want[path], ask.of(Look.with(FIVE), path));
        }
    }

    /** What the query answers when the call was made, for each of the numbers 0 to 4. */
    void eachPathThen(String what, Ask call, Ask query, double... want) {
        eachPath(what, (x, path) -> {
            call.of(x, path);
            return query.of(x, path);
        }, want);
    }

    void noSuchPath(String what, Ask ask) {
        LatticePaths none = new LatticePaths();
        due.throwsIndex(none, what + " of path 0 where there is none", () -> ask.of(none, 0));
        LatticePaths removed = Look.with("2,2:RR", "5,5:RR");
        removed.remove(0);
        due.throwsIndex(removed, what + " of path 1 where one of two is left", () -> ask.of(removed, 1));
        throwsIndex(what + " of no path", 0, 4, ask, FIVE);
    }

    /** The edges of the range, and what is between them, are no wrong arguments. */
    void takes(String what, int least, int greatest, Ask ask, String... paths) {
        for (int argument = least; argument <= greatest; argument++) {
            due.holds(what + " takes " + argument, isTaken(ask, Look.with(paths), argument));
        }
    }

    private static boolean isTaken(Ask ask, LatticePaths x, int argument) {
        try {
            ask.of(x, argument);
            return true;
        } catch (RuntimeException thrown) {
            return false;
        }
    }

    void throwsIndex(String what, int least, int greatest, Ask ask, String... paths) {
        for (int argument : beyond(least, greatest)) {
            LatticePaths x = Look.with(paths);
            due.throwsIndex(x, what + " with " + argument, () -> ask.of(x, argument));
        }
    }

    void throwsArgument(String what, int least, int greatest, Ask ask, String... paths) {
        for (int argument : beyond(least, greatest)) {
            LatticePaths x = Look.with(paths);
            due.throwsArgument(x, what + " with " + argument, () -> ask.of(x, argument));
        }
    }

    /** The numbers next to the range, and some that are far from it. */
    private static int[] beyond(int least, int greatest) {
        int[] beyond = new int[FAR.length + 2];
        System.arraycopy(FAR, 0, beyond, 2, FAR.length);
        beyond[0] = least - 1;
        beyond[1] = greatest + 1;
        return beyond;
    }

    /** The call saves the state from before it, which undo() brings back. */
    void undoable(String what, LatticePaths x, Due.Call call) {
        String before = Look.at(x);
        int saved = x.count(5);
        due.holds("there is room for one more state before " + what, saved < 6);
        call.answer();
        due.answers("the saved states after " + what, saved + 1, x.count(5));
        due.answers("the undo of " + what, saved, x.undo());
        due.tells("the state after the undo of " + what, before, Look.at(x));
        due.tells("what stands on the sites then", Look.sitesOfPaths(x), Look.marks(x));
    }

    /** The call answers, but saves nothing. */
    void savesNothing(String what, LatticePaths x, Due.Call call) {
        int saved = x.count(5);
        call.answer();
        due.answers("the saved states after " + what, saved, x.count(5));
    }
}
