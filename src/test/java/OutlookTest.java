/** Promises 27 to 34: what would be, and the numbers of the whole. */
public final class OutlookTest {
    private static final Due due = new Due("OutlookTest");
    private static final String REST = "0,6:RRRRRRRRRDLLLLLLLLLDRRRRRRRRRDLLLLLLLLL";

    public static void main(String[] args) {
        ways();
        waysRoundOthers();
        waysWrongly();
        bestStep();
        bestStepOfDeadEnds();
        bestStepWrongly();
        reach();
        reachWrongly();
        ifTurned();
        ifTurnedWrongly();
        turnable();
        turnableWrongly();
        count();
        countWrongly();
        spread();
        share();
        due.end();
    }

    private static void ways() {
        LatticePaths x = Look.with("4,4:");
        int[] free = {1, 4, 12, 36, 100};
        for (int steps = 0; steps < free.length; steps++) {
            due.answers("ways(0, " + steps + ") in the middle", free[steps], x.ways(0, steps));
        }
        // of the 284 rows of 5 steps two leave the lattice: straight up and straight to the left
        due.answers("ways(0, 5) in the middle", 282, x.ways(0, 5));
        LatticePaths corner = Look.with("0,0:");
        int[] narrow = {1, 2, 4, 10, 24, 60, 146};
        for (int steps = 0; steps < narrow.length; steps++) {
            due.answers("ways(0, " + steps + ") in a corner", narrow[steps], corner.ways(0, steps));
        }
        due.answers("ways of one step behind a step", 3, Look.with("4,4:R").ways(0, 1));
        due.answers("ways of two steps behind a step", 9, Look.with("4,4:R").ways(0, 2));
        due.tells("nothing changes", "1 1 0 0 0 1 0 error 0 [0]", Look.at(corner));
    }

    private static void waysRoundOthers() {
        LatticePaths x = Look.with("0,0:RDL", "0,3:RR");
        due.answers("one step", 1, x.ways(0, 1));
        due.answers("two steps", 1, x.ways(0, 2));
        due.answers("three steps", 1, x.ways(0, 3));
        due.answers("four steps", 2, x.ways(0, 4));
        LatticePaths trapped = Look.with("0,1:RUL");
        due.answers("no step of a trapped path", 1, trapped.ways(0, 0));
        due.answers("one step of a trapped path", 0, trapped.ways(0, 1));
        due.answers("six steps of a trapped path", 0, trapped.ways(0, 6));
        LatticePaths full = Look.with(Look.snake(60));
        due.answers("60 sites do not matter", 1, full.ways(0, 1));
        due.answers("60 sites do not matter then either", 2, full.ways(0, 2));
        LatticePaths hole = Look.with("1,0:DL", "9,9:");
        due.answers("into a hole too", 1, Look.with("1,0:DL", "0,2:").ways(0, 1));
        due.answers("but no further", 0, Look.with("1,0:DL", "0,2:").ways(0, 2));
        due.answers("the hole and the way out", 2, hole.ways(0, 1));
    }

    private static void waysWrongly() {
        LatticePaths x = Look.with("4,4:");
        due.throwsIndex(x, "ways(1, 0)", () -> x.ways(1, 0));
        due.throwsIndex(x, "ways(-1, 7)", () -> x.ways(-1, 7));
        due.throwsArgument(x, "ways(0, 7)", () -> x.ways(0, 7));
        due.throwsArgument(x, "ways(0, -1)", () -> x.ways(0, -1));
        due.throwsArgument(x, "ways(0, max)", () -> x.ways(0, Integer.MAX_VALUE));
    }

    private static void bestStep() {
        due.answers("the lower of two alike", 1, Look.with("0,0:").bestStep(0));
        due.answers("the lower of two alike below", 0, Look.with("0,9:").bestStep(0));
        due.answers("straight on", 1, Look.with("3,5:R").bestStep(0));
        due.answers("away from the border", 2, Look.with("4,1:").bestStep(0));
        due.answers("away from the hole", 2, Look.with("2,0:LDL").bestStep(0));
        due.answers("away from the hole, to the right", 1, Look.with("0,1:RU").bestStep(0));
        LatticePaths full = Look.with(Look.snake(60));
        due.answers("60 sites do not matter", 2, full.bestStep(0));
        LatticePaths trapped = Look.with("0,1:RUL", "5,5:");
        due.answers("a trapped path", -1, trapped.bestStep(0));
        due.tells("nothing changes", "2 5 0 0 0 2 0 error 0 [10 11 1 0] [55]", Look.at(trapped));
        // upwards there are 4 sites, downwards 5: a step and 4 further ones fit downwards alone
        LatticePaths row = Look.with("0,4:", "1,0:DDDDDDDDD");
        due.answers("the longer way of two", 2, row.bestStep(0));
    }

    private static void bestStepOfDeadEnds() {
        LatticePaths one = Look.with("1,0:DL", "0,2:");
        due.answers("the only step, into a hole", 0, one.bestStep(0));
        LatticePaths two = Look.with("1,8:D", "0,8:", "2,8:R", "3,9:");
        due.answers("the lower of two holes", 1, two.bestStep(0));
        // 4 further steps fit to neither side, though more of them fit to the left
        LatticePaths short4 = Look.with("2,8:D", "0,8:R", "3,8:R", "4,9:");
        due.answers("the lower, however deep the holes are", 1, short4.bestStep(0));
    }

    private static void bestStepWrongly() {
        LatticePaths x = Look.with("4,4:");
        due.throwsIndex(x, "bestStep(1)", () -> x.bestStep(1));
        due.throwsIndex(x, "bestStep(-1)", () -> x.bestStep(-1));
    }

    private static void reach() {
        due.answers("one site", 99, Look.with("4,4:").reach(0));
        LatticePaths x = Look.with("0,1:RUR", "9,9:");
        due.answers("one of two regions", 94, x.reach(0));
        due.answers("the other path", 94, x.reach(1));
        x.reverse(0);
        due.answers("both regions", 95, x.reach(0));
        x.reverse(0);
        due.answers("only one again", 94, x.reach(0));
        due.answers("a region with two neighbours counts once", 90, Look.with("3,0:DDDDDDDDD").reach(0));
        due.answers("a trapped path", 0, Look.with("0,1:RUL").reach(0));
        due.answers("a hole alone", 1, Look.with("1,0:DL", "0,2:").reach(0));
        due.answers("a full lattice", 0, Look.with(Look.snake(60), REST).reach(1));
        due.answers("60 sites do not matter", 40, Look.with(Look.snake(60)).reach(0));
    }

    private static void reachWrongly() {
        LatticePaths x = Look.with("4,4:");
        due.throwsIndex(x, "reach(1)", () -> x.reach(1));
        due.throwsIndex(x, "reach(-1)", () -> x.reach(-1));
    }

    private static void ifTurned() {
        LatticePaths x = Look.with("0,0:RRR", "0,2:");
        String before = Look.at(x);
        due.answers("a turn that would be made", 0, x.ifTurned(0, 1, 1));
        due.answers("off the lattice", 1, x.ifTurned(0, 0, 2));
        due.answers("onto itself", 2, x.ifTurned(0, 2, 2));
        due.answers("onto another path", 3, x.ifTurned(0, 0, 1));
        due.answers("about its head", 0, x.ifTurned(0, 3, 3));
        due.answers("1 before 3", 1, Look.with("1,1:RRR", "0,1:").ifTurned(0, 0, 2));
        due.answers("2 before 3", 2, Look.with("3,5:RURU", "3,4:").ifTurned(0, 2, 2));
        due.tells("nothing changes", before, Look.at(x));
        due.answers("the turn is made then", 0, x.turn(0, 1, 1));
    }

    private static void ifTurnedWrongly() {
        LatticePaths x = Look.with("4,4:RR");
        due.throwsIndex(x, "ifTurned(1, 0, 1)", () -> x.ifTurned(1, 0, 1));
        due.throwsIndex(x, "ifTurned(-1, 0, 1)", () -> x.ifTurned(-1, 0, 1));
        due.throwsIndex(x, "ifTurned(0, 3, 0)", () -> x.ifTurned(0, 3, 0));
        due.throwsIndex(x, "ifTurned(0, -1, 1)", () -> x.ifTurned(0, -1, 1));
        due.throwsArgument(x, "ifTurned(0, 0, 0)", () -> x.ifTurned(0, 0, 0));
        due.throwsArgument(x, "ifTurned(0, 0, 4)", () -> x.ifTurned(0, 0, 4));
    }

    private static void turnable() {
        due.answers("one site", 0, Look.with("4,4:").turnable(0));
        due.answers("two sites", 3, Look.with("4,4:R").turnable(0));
        due.answers("two sites in a corner", 1, Look.with("0,0:R").turnable(0));
        due.answers("two sites beside another path", 2, Look.with("4,4:R", "4,5:").turnable(0));
        due.answers("three sites in a row", 5, Look.with("4,4:RR").turnable(0));
        due.answers("a full lattice", 0, Look.with(Look.snake(60), REST).turnable(1));
        LatticePaths x = Look.with("2,2:RRRDD", "7,7:");
        String before = Look.at(x);
        due.answers("a hook", 1 + 2 + 2 + 2 + 2, x.turnable(0));
        due.tells("nothing changes", before, Look.at(x));
    }

    private static void turnableWrongly() {
        LatticePaths x = Look.with("4,4:");
        due.throwsIndex(x, "turnable(1)", () -> x.turnable(1));
        due.throwsIndex(x, "turnable(-1)", () -> x.turnable(-1));
    }

    private static void counts(LatticePaths x, String what, int... want) {
        for (int number = 0; number < want.length; number++) {
            due.answers("count(" + number + ") after " + what, want[number], x.count(number));
        }
    }

    private static void count() {
        LatticePaths x = new LatticePaths();
        counts(x, "nothing", 0, 0, 0, 0, 0, 0, 0);
        x.start(4, 4);
        counts(x, "start", 1, 1, 0, 0, 0, 1, 0);
        x.step(0, 1);
        counts(x, "step", 1, 2, 1, 0, 0, 2, 0);
        x.step(0, 3);
        counts(x, "a refused step", 1, 2, 1, 1, 0, 3, 0);
        x.slither(0, 1);
        counts(x, "slither", 1, 2, 2, 1, 0, 4, 0);
        Look.draw(x, "9,9:L");
        counts(x, "draw", 2, 4, 2, 1, 0, 5, 0);
        x.slither(1, 3);
        x.slither(1, 1);
        x.slither(1, 2);
        counts(x, "slithers of which one is refused", 2, 4, 4, 2, 0, 6, 0);
        x.turn(0, 0, 1);
        counts(x, "turn", 2, 4, 4, 2, 1, 6, 0);
        x.turn(1, 0, 1);
        counts(x, "a turn", 2, 4, 4, 2 + 1, 1, 6, 0);
        x.ifTurned(0, 0, 1);
        x.turnable(0);
        x.ways(0, 6);
        counts(x, "queries", 2, 4, 4, 3, 1, 6, 0);
        x.append('7');
        counts(x, "append", 2, 4, 4, 3, 1, 6, 1);
        x.remove(1);
        counts(x, "remove", 1, 2, 4, 3, 1, 6, 1);
        x.write(0);
        counts(x, "write", 1, 2, 4, 3, 1, 6, 5);
    }

    private static void countWrongly() {
        LatticePaths x = Look.with("4,4:R");
        due.throwsArgument(x, "count(7)", () -> x.count(7));
        due.throwsArgument(x, "count(-1)", () -> x.count(-1));
    }

    private static void spread() {
        due.answers("one site", 0.0, Look.with("9,9:").spread(0));
        due.answers("two sites", 0.25, Look.with("9,9:L").spread(0));
        due.answers("three sites", 6.0 / 9.0, Look.with("4,4:RR").spread(0));
        due.answers("three sites round a corner", 4.0 / 9.0, Look.with("4,4:RD").spread(0));
        due.answers("a ring", 96.0 / 64.0, Look.with("3,4:RRDDLLU").spread(0));
        LatticePaths x = Look.with(Look.snake(60));
        due.answers("a snake", (double) x.path(0, 7) / 3600.0, x.spread(0));
        due.throwsIndex(x, "spread(1)", () -> x.spread(1));
        due.throwsIndex(x, "spread(-1)", () -> x.spread(-1));
    }

    private static void share() {
        due.answers("nothing", 0.0f, new LatticePaths().share());
        due.answers("one site", 0.01f, Look.with("4,4:").share());
        due.answers("seven sites", 7f / 100f, Look.with("4,4:RRR", "0,0:RR").share());
        due.answers("sixty sites", 0.6f, Look.with(Look.snake(60)).share());
        LatticePaths full = Look.with(Look.snake(60), REST);
        due.answers("a full lattice", 1.0f, full.share());
        full.back(1);
        due.answers("all but one", 99f / 100f, full.share());
    }
}
