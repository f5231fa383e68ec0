/** The sentences of promises 27 to 34. */
final class OutlookSentences {
    private static final int UP = 0;
    private static final int RIGHT = 1;
    private static final int LEFT = 3;
    private static final String REST = "0,6:RRRRRRRRRDLLLLLLLLLDRRRRRRRRRDLLLLLLLLL";

    private final Due due;
    private final Sentences document;
    private final Edges edges;

    OutlookSentences(Due due, Sentences document) {
        this.due = due;
        this.document = document;
        this.edges = new Edges(due);
    }

    void test() {
        ways();
        bestStep();
        reach();
        ifTurned();
        turnable();
        count();
        spread();
        share();
    }

    // ---- promise 27

    private void ways() {
        document.under("Promise 27");
        document.says("Counts the ways in which a path could go on.", () -> {
            LatticePaths x = Look.with("4,4:R");
            due.answers("three steps", 3, x.ways(0, 1));
            due.answers("nine rows of two steps", 9, x.ways(0, 2));
            edges.savesNothing("ways", x, () -> x.ways(0, 6));
        });
        document.says("- `path`: its number", () ->
                edges.eachPath("ways of one step", (x, path) -> x.ways(path, 1), 2, 3, 2, 3, 2));
        document.says("- `steps`: 0 to 6", () -> {
            edges.takes("the steps", 0, 6, (x, steps) -> x.ways(0, steps), "4,4:");
            int[] corner = {1, 2, 4, 10, 24, 60, 146};
            int[] middle = {1, 4, 12, 36, 100, 282, 752};
            for (int steps = 0; steps <= 6; steps++) {
                due.answers(steps + " steps from a corner", corner[steps], Look.with("0,0:").ways(0, steps));
                due.answers(steps + " steps from the middle", middle[steps], Look.with("4,4:").ways(0, steps));
            }
        });
        document.says("Returns how many different rows of so many steps its head could make, one after the other,"
                + " none of which would be refused for the reasons 1 to 3.", this::waysOfEachReason);
        document.says("Throws `IndexOutOfBoundsException` if there is no such path", () -> {
            edges.noSuchPath("ways of no step", (x, path) -> x.ways(path, 0));
            edges.noSuchPath("ways of 6 steps", (x, path) -> x.ways(path, 6));
        });
        document.says("Throws `IllegalArgumentException` if steps is not 0 to 6", () -> {
            edges.throwsArgument("the steps", 0, 6, (x, steps) -> x.ways(0, steps), "4,4:");
            edges.throwsArgument("the steps of a trapped path", 0, 6, (x, steps) -> x.ways(0, steps), "0,1:RUL");
        });
    }

    private void waysOfEachReason() {
        LatticePaths trapped = Look.with("0,1:RUL");
        due.answers("no step of a trapped path", 1, trapped.ways(0, 0));
        for (int steps = 1; steps <= 6; steps++) {
            due.answers(steps + " steps of a trapped path", 0, trapped.ways(0, steps));
        }
        LatticePaths hole = Look.with("1,0:DL", "0,2:");
        due.answers("one step into a hole", 1, hole.ways(0, 1));
        due.answers("two steps into it", 0, hole.ways(0, 2));
        LatticePaths shut = Look.with("9,0:", "8,0:", "8,1:D", "9,3:");
        due.answers("two steps to the end of a lane", 1, shut.ways(0, 2));
        due.answers("three steps, of which one would come back", 0, shut.ways(0, 3));
        due.answers("a ring of free sites, both ways round", 2, Look.with("0,0:", "2,0:D", "0,2:R").ways(0, 3));
        due.answers("the ring's end, from where each way has no step left", 0,
                Look.with("0,0:", "2,0:D", "0,2:R").ways(0, 4));
        LatticePaths sixty = Look.with(Look.snake(60));
        due.answers("one step of 60 sites, though it would be refused for 4", 1, sixty.ways(0, 1));
        due.answers("two steps of 60 sites", 2, sixty.ways(0, 2));
        due.answers("the step itself", 4, sixty.step(0, 2));
    }

    // ---- promise 28

    private void bestStep() {
        document.under("Promise 28");
        document.says("Finds the best step for a path: the direction to a free neighbour of its head after which it"
                + " has the most ways of 4 further steps; of several the lowest.", this::bestSteps);
        document.says("- `path`: its number", () ->
                edges.eachPath("bestStep", (x, path) -> x.bestStep(path), 1, 1, 2, 1, 0));
        document.says("Returns the direction; NONE if it is trapped.", () -> {
            due.answers("a trapped path", -1, Look.with("0,1:RUL").bestStep(0));
            due.answers("a trapped site", -1, Look.with("0,0:", "1,0:", "0,1:").bestStep(0));
            due.answers("a full lattice", -1, Look.with(Look.snake(60), REST).bestStep(1));
            due.answers("up alone", 0, Look.with("0,9:", "1,9:").bestStep(0));
            due.answers("right alone", 1, Look.with("0,0:", "0,1:").bestStep(0));
            due.answers("down alone", 2, Look.with("0,0:", "1,0:").bestStep(0));
            due.answers("left alone", 3, Look.with("9,0:", "9,1:").bestStep(0));
        });
        document.says("Throws `IndexOutOfBoundsException` if there is no such path",
                () -> edges.noSuchPath("bestStep", (x, path) -> x.bestStep(path)));
    }

    private void bestSteps() {
        due.answers("the lower of two alike above", 1, Look.with("0,0:").bestStep(0));
        due.answers("the lower of two alike below", 0, Look.with("0,9:").bestStep(0));
        due.answers("straight on", 1, Look.with("3,5:R").bestStep(0));
        due.answers("away from the border", 2, Look.with("4,1:").bestStep(0));
        due.answers("a hole is worse than a way", 2, Look.with("2,0:LDL").bestStep(0));
        due.answers("a hole, where it is the only step", 0, Look.with("1,0:DL", "0,2:").bestStep(0));
        due.answers("the lower of two holes", 1, Look.with("1,8:D", "0,8:", "2,8:R", "3,9:").bestStep(0));
        due.answers("the lower of two holes, though the other one is deeper", 1,
                Look.with("2,8:D", "0,8:R", "3,8:R", "4,9:").bestStep(0));
        // 4 sites are above the head and 5 below: a step and 4 further ones fit downwards alone
        due.answers("4 further steps fit to one side alone", 2, Look.with("0,4:", "1,0:DDDDDDDDD").bestStep(0));
        // there are 5 sites above, and a lane of 6 below: a fifth further step would fit downwards alone
        due.answers("no fifth further step", 0, Look.with("0,5:", "1,0:DDDDDDDD", "2,8:RD").bestStep(0));
        due.answers("60 sites do not matter", 2, Look.with(Look.snake(60)).bestStep(0));
        LatticePaths x = Look.with("4,4:");
        edges.savesNothing("bestStep", x, () -> x.bestStep(0));
    }

    // ---- promise 29

    private void reach() {
        document.under("Promise 29");
        document.says("Counts the free sites to which a path could come: those in the regions of the free neighbours"
                + " of its head.", () -> {
            due.answers("one region", 99, Look.with("4,4:").reach(0));
            due.answers("two neighbours in two regions", 97, Look.with("0,1:RU").reach(0));
            due.answers("neighbours in one of two regions", 95, Look.with("0,1:RUR").reach(0));
            due.answers("two neighbours in one region count once", 90, Look.with("3,0:DDDDDDDDD").reach(0));
            due.answers("the tail's neighbours do not count", 1, Look.with("1,0:DL", "0,2:").reach(0));
            due.answers("a region at another path's head alone", 0, Look.with("0,1:RUL", "4,4:").reach(0));
            due.answers("60 sites do not matter", 40, Look.with(Look.snake(60)).reach(0));
            LatticePaths x = Look.with("4,4:");
            edges.savesNothing("reach", x, () -> x.reach(0));
        });
        document.says("- `path`: its number", () -> {
            LatticePaths x = Look.with("0,4:RRRRRRRRR", "0,1:RUL", "9,0:", "0,9:");
            int[] want = {35 + 49, 0, 35, 49};
            for (int path = 0; path < 4; path++) {
                due.answers("reach(" + path + ")", want[path], x.reach(path));
            }
        });
        document.says("Returns the number of these sites.", () -> {
            due.answers("none, for a trapped path", 0, Look.with("0,1:RUL").reach(0));
            due.answers("none, on a full lattice", 0, Look.with(Look.snake(60), REST).reach(1));
            due.answers("one", 1, Look.with(Look.snake(60), REST.substring(0, REST.length() - 1)).reach(1));
            due.answers("the most", 99, Look.with("0,0:").reach(0));
            LatticePaths x = Look.with("9,1:LLLLLLLLL");
            due.answers("two regions", 90, x.reach(0));
            x.remove(0);
            Look.draw(x, Look.snake(60));
            due.answers("the one region that is left", 40, x.reach(0));
        });
        document.says("Throws `IndexOutOfBoundsException` if there is no such path",
                () -> edges.noSuchPath("reach", (x, path) -> x.reach(path)));
    }

    // ---- promise 30

    private void ifTurned() {
        document.under("Promise 30");
        document.says("Tells why a turn would be refused.", () -> {
            String[][] some = {{"4,4:RRD"}, {"0,4:RRUR", "0,5:"}, {"1,1:RRR", "0,1:"}, {Look.snake(20)}, Edges.FIVE};
            for (String[] paths : some) {
                for (int place = 0; place < Look.with(paths).path(0, 0); place++) {
                    for (int quarters = 1; quarters <= 3; quarters++) {
                        LatticePaths x = Look.with(paths);
                        String before = Look.at(x);
                        int reason = x.ifTurned(0, place, quarters);
                        due.tells("all behind it", before, Look.at(x));
                        due.answers("what turn() answers then", reason, x.turn(0, place, quarters));
                    }
                }
            }
        });
        document.says("- `path`: its number", () ->
                edges.eachPath("ifTurned", (x, path) -> x.ifTurned(path, 1, 1), 0, 2, 2, 0, 1));
        document.says("- `place`: the number of the site in the path", () -> {
            edges.takes("the place", 0, 59, (x, place) -> x.ifTurned(0, place, 1), Look.snake(60));
            int[] want = {1, 1, 2, 0};
            for (int place = 0; place < 4; place++) {
                due.answers("about " + place, want[place], Look.with("0,0:RRR").ifTurned(0, place, 2));
            }
        });
        document.says("- `quarters`: 1 to 3", () -> {
            edges.takes("the quarters", 1, 3, (x, quarters) -> x.ifTurned(0, 0, quarters), "4,4:R");
            int[] want = {0, 1, 1};
            for (int quarters = 1; quarters <= 3; quarters++) {
                due.answers("by " + quarters, want[quarters - 1], Look.with("0,0:RR").ifTurned(0, 0, quarters));
            }
        });
        document.says("Returns the reason, 1 to 3; 0 if it would not be refused.", () -> {
            LatticePaths x = Look.with("0,4:RR", "0,5:");
            due.answers("off the lattice", 1, x.ifTurned(0, 0, 2));
            due.answers("onto itself", 2, x.ifTurned(0, 1, 2));
            due.answers("onto another", 3, x.ifTurned(0, 0, 1));
            due.answers("a free way", 0, x.ifTurned(0, 0, 3));
            due.answers("about its head", 0, x.ifTurned(0, 2, 2));
            due.answers("one site in a corner", 0, Look.with("0,0:").ifTurned(0, 0, 1));
            due.answers("1 before 2", 1, Look.with("0,5:RRRR").ifTurned(0, 1, 2));
            due.answers("1 before 3", 1, Look.with("1,1:RRR", "0,1:").ifTurned(0, 0, 2));
            due.answers("2 before 3", 2, Look.with("3,5:RURU", "3,4:").ifTurned(0, 2, 2));
        });
        document.says("Throws `IndexOutOfBoundsException` if there is no such path, or it has no such site", () -> {
            edges.noSuchPath("ifTurned", (x, path) -> x.ifTurned(path, 0, 1));
            edges.throwsIndex("the place", 0, 2, (x, place) -> x.ifTurned(0, place, 1), "4,4:RR", "0,0:RRRR");
            edges.throwsIndex("the place", 0, 59, (x, place) -> x.ifTurned(0, place, 1), Look.snake(60));
        });
        document.says("Throws `IllegalArgumentException` if quarters is not 1 to 3", () -> {
            edges.throwsArgument("the quarters", 1, 3, (x, quarters) -> x.ifTurned(0, 0, quarters), "4,4:RR");
            edges.throwsArgument("the quarters of a head", 1, 3, (x, quarters) -> x.ifTurned(0, 2, quarters), "4,4:RR");
        });
    }

    // ---- promise 31

    private void turnable() {
        document.under("Promise 31");
        document.says("Counts the turns that would not be refused.", () -> {
            LatticePaths x = Look.with("2,2:RRRDD", "7,7:");
            String before = Look.at(x);
            due.answers("a hook", 9, x.turnable(0));
            due.tells("all behind it", before, Look.at(x));
        });
        document.says("- `path`: its number", () -> {
            LatticePaths x = Look.with("0,0:R", "9,9:", "5,5:R", "5,4:", "0,8:RR");
            int[] want = {1, 0, 2, 0, 3};
            for (int path = 0; path < 5; path++) {
                due.answers("turnable(" + path + ")", want[path], x.turnable(path));
            }
        });
        document.says("Returns how many pairs of a site of the path, without its head, and a number of quarters there"
                + " are with which turn() would not be refused.", this::turnsThatArePossible);
        document.says("Throws `IndexOutOfBoundsException` if there is no such path",
                () -> edges.noSuchPath("turnable", (x, path) -> x.turnable(path)));
    }

    private void turnsThatArePossible() {
        due.answers("one site, which is the head", 0, Look.with("4,4:").turnable(0));
        due.answers("two sites, each way", 3, Look.with("4,4:R").turnable(0));
        due.answers("two sites in a corner", 1, Look.with("0,0:R").turnable(0));
        due.answers("two sites beside another path", 2, Look.with("4,4:R", "4,5:").turnable(0));
        due.answers("three sites in a row", 5, Look.with("4,4:RR").turnable(0));
        due.answers("two sites with no way", 0, Look.with("0,0:R", "0,1:").turnable(0));
        due.answers("a full lattice", 0, Look.with(Look.snake(60), REST).turnable(1));
        for (String path : new String[] {"4,4:RRURDR", Look.snake(60), Look.ring(), "4,5:UUU"}) {
            LatticePaths x = Look.with(path, "9,9:");
            int turns = 0;
            for (int place = 0; place < x.path(0, 0) - 1; place++) {
                for (int quarters = 1; quarters <= 3; quarters++) {
                    turns += x.ifTurned(0, place, quarters) == 0 ? 1 : 0;
                }
            }
            due.answers("the pairs one by one of " + path, turns, x.turnable(0));
        }
    }

    // ---- promise 32

    private void count() {
        document.under("Promise 32");
        document.says("Returns a number.", () -> {
            LatticePaths x = Look.with(Edges.FIVE);
            int[] want = {5, 20, 0, 0, 0, 5, 0};
            for (int what = 0; what <= 6; what++) {
                due.answers("count(" + what + ")", want[what], x.count(what));
            }
            edges.savesNothing("count", x, () -> x.count(5));
        });
        document.says("- `what`: 0 the paths, 1 the sites in all paths, 2 the steps that were made so far by step()"
                + " and slither(), 3 the calls of step(), slither() and turn() that were refused so far, 4 the turns"
                + " that were made so far by turn(), 5 the number of saved states, 6 the length of the buffer",
                this::counts);
        document.says("Returns the number.", () -> {
            for (int what = 0; what <= 6; what++) {
                due.answers("count(" + what + ") of nothing", 0, new LatticePaths().count(what));
            }
            due.answers("all sites", 100, Look.with(Look.snake(60), REST).count(1));
            LatticePaths x = new LatticePaths();
            x.start(0, 0);
            for (int call = 1; call <= 200; call++) {
                x.step(0, UP);
            }
            due.answers("many refusals", 200, x.count(3));
            due.answers("the most saved states", 6, x.count(5));
        });
        document.says("Throws `IllegalArgumentException` if what is not 0 to 6", () -> {
            edges.throwsArgument("what", 0, 6, (x, what) -> x.count(what));
            edges.throwsArgument("what", 0, 6, (x, what) -> x.count(what), Edges.FIVE);
        });
    }

    private void counts() {
        LatticePaths x = Look.with("4,4:R", "0,0:");
        counted(x, "draw, which makes no step", 2, 3, 0, 0, 0, 2, 0);
        x.step(0, RIGHT);
        counted(x, "a step", 2, 4, 1, 0, 0, 3, 0);
        x.step(0, LEFT);
        counted(x, "a refused step", 2, 4, 1, 1, 0, 4, 0);
        x.slither(1, RIGHT);
        counted(x, "a slither", 2, 4, 2, 1, 0, 5, 0);
        x.slither(1, UP);
        counted(x, "a refused slither", 2, 4, 2, 2, 0, 6, 0);
        x.turn(0, 0, 1);
        counted(x, "a turn", 2, 4, 2, 2, 1, 6, 0);
        x.turn(0, 1, 2);
        counted(x, "a refused turn", 2, 4, 2, 3, 1, 6, 0);
        x.turn(1, 0, 2);
        counted(x, "a turn about a head", 2, 4, 2, 3, 2, 6, 0);
        x.back(0);
        counted(x, "back, which takes no step back", 2, 3, 2, 3, 2, 6, 0);
        x.split(0, 0);
        counted(x, "split", 3, 3, 2, 3, 2, 6, 0);
        x.join(0, 2);
        counted(x, "join, which makes no step", 2, 3, 2, 3, 2, 6, 0);
        x.ifTurned(0, 0, 1);
        x.turnable(0);
        x.ways(0, 6);
        counted(x, "calls that only ask", 2, 3, 2, 3, 2, 6, 0);
        x.append('7');
        counted(x, "append", 2, 3, 2, 3, 2, 6, 1);
        x.undo();
        counted(x, "undo", 3, 3, 2, 3, 2, 5, 1);
        x.remove(2);
        counted(x, "remove", 2, 2, 2, 3, 2, 6, 1);
    }

    private void counted(LatticePaths x, String what, int... want) {
        for (int number = 0; number < want.length; number++) {
            due.answers("count(" + number + ") behind " + what, want[number], x.count(number));
        }
    }

    // ---- promise 33

    private void spread() {
        document.under("Promise 33");
        document.says("Returns the mean squared distance of the sites of a path from their centre.", () -> {
            due.answers("one site", 0.0, Look.with("9,9:").spread(0));
            due.answers("two sites, each half a step away", 0.25, Look.with("0,0:D").spread(0));
            due.answers("four sites round a square", 0.5, Look.with("4,4:RDL").spread(0));
            due.answers("five sites in a row", 2.0, Look.with("0,0:RRRR").spread(0));
            LatticePaths x = Look.with("4,4:RRR");
            edges.savesNothing("spread", x, () -> x.spread(0));
        });
        document.says("- `path`: its number", () -> edges.eachPath("spread", (x, path) -> x.spread(path),
                1.0 / 4.0, 4.0 / 9.0, 8.0 / 16.0, 20.0 / 25.0, 105.0 / 36.0));
        document.says("Returns its moment as a double, divided by the square of the number of its sites as a double.",
                () -> {
            LatticePaths x = Look.with(Look.ring());
            for (int sites = 60; sites >= 1; sites--) {
                double square = (double) sites * (double) sites;
                due.answers("spread of " + sites + " sites", (double) x.path(0, 7) / square, x.spread(0));
                if (sites > 1) {
                    x.back(0);
                }
            }
        });
        document.says("Throws `IndexOutOfBoundsException` if there is no such path",
                () -> edges.noSuchPath("spread", (x, path) -> x.spread(path)));
    }

    // ---- promise 34

    private void share() {
        document.under("Promise 34");
        document.says("Returns the share of sites of the lattice that are in paths.", () -> {
            due.answers("nothing", 0.0f, new LatticePaths().share());
            due.answers("a full lattice", 1.0f, Look.with(Look.snake(60), REST).share());
            LatticePaths x = Look.with("4,4:RRR", "0,0:R");
            due.answers("two paths", 6.0f / 100.0f, x.share());
            x.remove(0);
            due.answers("one of them", 2.0f / 100.0f, x.share());
            edges.savesNothing("share", x, () -> x.share());
        });
        document.says("Returns the number of these sites as a float, divided by 100.0f.", () -> {
            for (int sites = 1; sites <= 60; sites++) {
                due.answers(sites + " sites", (float) sites / 100.0f, Look.with(Look.snake(sites)).share());
            }
            LatticePaths x = Look.with(Look.snake(60), REST);
            for (int sites = 100; sites > 61; sites--) {
                due.answers(sites + " sites", (float) sites / 100.0f, x.share());
                x.back(1);
            }
        });
    }
}
