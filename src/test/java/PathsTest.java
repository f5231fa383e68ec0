/** Promises 1 to 10: paths that start, step, go back, slither, turn, are reversed, joined, split and removed. */
public final class PathsTest {
    private static final Due due = new Due("PathsTest");
    private static final int UP = 0;
    private static final int RIGHT = 1;
    private static final int DOWN = 2;
    private static final int LEFT = 3;

    public static void main(String[] args) {
        newObject();
        start();
        startWrongly();
        step();
        stepRefused();
        stepAtSixtySites();
        stepWrongly();
        back();
        slither();
        slitherRefused();
        slitherOneAndTwoSites();
        slitherWrongly();
        turn();
        turnClockwise();
        turnRefused();
        turnRefusalsInOrder();
        turnWrongly();
        reverse();
        join();
        joinNumbers();
        joinWrongly();
        split();
        splitWrongly();
        remove();
        due.end();
    }

    private static void newObject() {
        LatticePaths x = new LatticePaths();
        for (int what = 0; what <= 6; what++) {
            due.answers("count(" + what + ") of a new object", 0, x.count(what));
        }
        due.answers("free sites of a new object", 100, x.free(0));
        for (int site = 0; site < 100; site++) {
            due.answers("the path at " + site, -1, x.site(site % 10, site / 10, 0));
            due.answers("the number at " + site, -1, x.site(site % 10, site / 10, 1));
        }
        due.throwsState(x, "undo() of a new object", () -> x.undo());
        due.throwsState(x, "goBack(0) of a new object", () -> x.goBack(0));
        due.throwsState(x, "goBack(1) of a new object", () -> x.goBack(1));
        due.throwsIndex(x, "path(0, 0) of a new object", () -> x.path(0, 0));
    }

    private static void start() {
        LatticePaths x = new LatticePaths();
        due.answers("the first start", 0, x.start(0, 0));
        due.answers("the second start", 1, x.start(9, 0));
        due.answers("the third start", 2, x.start(0, 9));
        due.answers("the fourth start", 3, x.start(9, 9));
        due.answers("the fifth start", 4, x.start(4, 7));
        due.tells("all", "5 5 0 0 0 5 0 error 0 [0] [9] [90] [99] [74]", Look.at(x));
    }

    private static void startWrongly() {
        LatticePaths x = Look.with("4,4:R");
        due.throwsIndex(x, "start(-1, 0)", () -> x.start(-1, 0));
        due.throwsIndex(x, "start(10, 0)", () -> x.start(10, 0));
        due.throwsIndex(x, "start(0, -1)", () -> x.start(0, -1));
        due.throwsIndex(x, "start(0, 10)", () -> x.start(0, 10));
        due.throwsIndex(x, "start(min, 0)", () -> x.start(Integer.MIN_VALUE, 0));
        due.throwsIndex(x, "start(0, max)", () -> x.start(0, Integer.MAX_VALUE));
        due.throwsState(x, "start on a tail", () -> x.start(4, 4));
        due.throwsState(x, "start on a head", () -> x.start(5, 4));
        x.start(0, 0);
        x.start(2, 0);
        x.start(4, 0);
        x.start(6, 0);
        due.throwsState(x, "a sixth start", () -> x.start(8, 0));
        due.throwsIndex(x, "a sixth start at no site", () -> x.start(10, 0));
    }

    private static void step() {
        LatticePaths x = Look.with("4,4:");
        due.answers("step up", 0, x.step(0, UP));
        due.answers("step right", 0, x.step(0, RIGHT));
        due.answers("step down", 0, x.step(0, DOWN));
        due.answers("step down", 0, x.step(0, DOWN));
        due.answers("step left", 0, x.step(0, LEFT));
        due.tells("its sites", "44 34 35 45 55 54", Look.sites(x, 0));
        due.answers("the steps made", 5, x.count(2));
        due.answers("the refusals", 0, x.count(3));
        due.answers("the saved states", 6, x.count(5));
    }

    private static void stepRefused() {
        LatticePaths x = Look.with("0,0:", "9,9:", "5,5:R", "5,4:");
        due.answers("up from the first row", 1, x.step(0, UP));
        due.answers("left from the first column", 1, x.step(0, LEFT));
        due.answers("down from the last row", 1, x.step(1, DOWN));
        due.answers("right from the last column", 1, x.step(1, RIGHT));
        due.answers("a step onto the own tail", 2, x.step(2, LEFT));
        due.answers("a step onto another path", 3, x.step(3, DOWN));
        due.tells("all", "4 5 0 6 0 6 0 error 0 [0] [99] [55 56] [45]", Look.at(x));
        LatticePaths ends = Look.with("9,3:", "0,4:");
        due.answers("right from the end of a row", 1, ends.step(0, RIGHT));
        due.answers("left from the start of a row", 1, ends.step(1, LEFT));
    }

    private static void stepAtSixtySites() {
        LatticePaths x = Look.with(Look.snake(60), "0,6:");
        due.answers("its sites", 60, x.path(0, 0));
        due.answers("its head", 50, x.place(0, 59));
        due.answers("off the lattice comes first", 1, x.step(0, LEFT));
        due.answers("onto itself comes first", 2, x.step(0, UP));
        due.answers("onto another comes first", 3, x.step(0, DOWN));
        x.remove(1);
        due.answers("a step of 60 sites", 4, x.step(0, DOWN));
        due.answers("its sites afterwards", 60, x.path(0, 0));
        due.answers("the refusals", 4, x.count(3));
        x.back(0);
        due.answers("a step of 59 sites", 0, x.step(0, LEFT));
        due.answers("its sites then", 60, x.path(0, 0));
    }

    private static void stepWrongly() {
        LatticePaths x = Look.with("4,4:");
        due.throwsIndex(x, "step(1, 0)", () -> x.step(1, 0));
        due.throwsIndex(x, "step(-1, 0)", () -> x.step(-1, 0));
        due.throwsIndex(x, "step(5, 0)", () -> x.step(5, 0));
        due.throwsIndex(x, "step(1, 4)", () -> x.step(1, 4));
        due.throwsArgument(x, "step(0, 4)", () -> x.step(0, 4));
        due.throwsArgument(x, "step(0, -1)", () -> x.step(0, -1));
        due.throwsArgument(x, "step(0, max)", () -> x.step(0, Integer.MAX_VALUE));
    }

    private static void back() {
        LatticePaths x = Look.with("4,4:RD");
        due.answers("back of 3 sites", 2, x.back(0));
        due.tells("its sites", "44 45", Look.sites(x, 0));
        due.answers("the site that was left", -1, x.site(5, 5, 0));
        due.answers("the number at the site that was left", -1, x.site(5, 5, 1));
        due.answers("back of 2 sites", 1, x.back(0));
        due.throwsState(x, "back of 1 site", () -> x.back(0));
        due.throwsIndex(x, "back(1)", () -> x.back(1));
        due.throwsIndex(x, "back(-1)", () -> x.back(-1));
        due.answers("the saved states", 3, x.count(5));
        due.answers("going back is no step", 0, x.count(2));
    }

    private static void slither() {
        LatticePaths x = Look.with("4,4:RD");
        due.answers("slither down", 0, x.slither(0, DOWN));
        due.tells("its sites", "45 55 65", Look.sites(x, 0));
        due.answers("the site that was left", -1, x.site(4, 4, 0));
        due.answers("the steps made", 1, x.count(2));
        LatticePaths ring = Look.with("0,0:RDL");
        due.answers("slither to the own tail", 0, ring.slither(0, UP));
        due.tells("the ring", "1 11 10 0", Look.sites(ring, 0));
        LatticePaths full = Look.with(Look.snake(60));
        due.answers("slither of 60 sites", 0, full.slither(0, DOWN));
        due.answers("its sites", 60, full.path(0, 0));
        due.answers("its tail", 1, full.place(0, 0));
        due.answers("its head", 60, full.place(0, 59));
        due.answers("the tail's site is free", -1, full.site(0, 0, 0));
    }

    private static void slitherRefused() {
        LatticePaths x = Look.with("0,0:RRDLL", "0,2:");
        due.answers("off the lattice", 1, x.slither(0, LEFT));
        due.answers("onto the own second site", 2, Look.with("0,0:RRDL").slither(0, UP));
        due.answers("onto another path", 3, x.slither(0, DOWN));
        due.tells("all", "2 7 0 2 0 4 0 error 0 [0 1 2 12 11 10] [20]", Look.at(x));
        due.answers("back onto the site before the head", 2, x.slither(0, RIGHT));
        due.answers("onto the own tail", 0, x.slither(0, UP));
        due.tells("its sites", "1 2 12 11 10 0", Look.sites(x, 0));
        LatticePaths full = Look.with(Look.snake(60), "0,6:");
        due.answers("off the lattice with 60 sites", 1, full.slither(0, LEFT));
        due.answers("onto itself with 60 sites", 2, full.slither(0, UP));
        due.answers("onto another with 60 sites", 3, full.slither(0, DOWN));
        due.answers("the refusals", 3, full.count(3));
        due.answers("the steps made", 0, full.count(2));
    }

    private static void slitherOneAndTwoSites() {
        LatticePaths x = Look.with("0,0:", "1,0:");
        due.answers("one site off the lattice", 1, x.slither(0, UP));
        due.answers("one site onto another", 3, x.slither(0, RIGHT));
        due.answers("one site down", 0, x.slither(0, DOWN));
        due.tells("all", "2 2 1 2 0 5 0 error 0 [10] [1]", Look.at(x));
        LatticePaths two = Look.with("5,5:R");
        due.answers("two sites to where the tail was", 0, two.slither(0, LEFT));
        due.tells("the two", "56 55", Look.sites(two, 0));
    }

    private static void slitherWrongly() {
        LatticePaths x = Look.with("4,4:R");
        due.throwsIndex(x, "slither(1, 0)", () -> x.slither(1, 0));
        due.throwsIndex(x, "slither(-1, 9)", () -> x.slither(-1, 9));
        due.throwsArgument(x, "slither(0, 4)", () -> x.slither(0, 4));
        due.throwsArgument(x, "slither(0, -1)", () -> x.slither(0, -1));
    }

    private static void turn() {
        LatticePaths x = Look.with("4,4:RRR");
        due.answers("a turn about the tail", 0, x.turn(0, 0, 1));
        due.tells("its sites", "44 54 64 74", Look.sites(x, 0));
        due.answers("a turn about the second site", 0, x.turn(0, 1, 3));
        due.tells("its sites", "44 54 55 56", Look.sites(x, 0));
        due.answers("a turn about the head", 0, x.turn(0, 3, 2));
        due.tells("its sites", "44 54 55 56", Look.sites(x, 0));
        due.answers("the turns made", 3, x.count(4));
        due.answers("turns are no steps", 0, x.count(2));
        due.answers("the refusals", 0, x.count(3));
        due.answers("the sites that were left", -1, x.site(4, 6, 0));
        due.answers("the sites that were taken", 3, x.site(6, 5, 1));
        LatticePaths one = Look.with("0,0:");
        due.answers("a turn of one site", 0, one.turn(0, 0, 2));
    }

    private static void turnClockwise() {
        int[] steps = {UP, RIGHT, DOWN, LEFT};
        int[] sites = {45, 56, 65, 54};
        for (int from = 0; from < 4; from++) {
            for (int quarters = 1; quarters <= 3; quarters++) {
                LatticePaths x = Look.with("5,5:");
                x.step(0, steps[from]);
                String what = "turn of direction " + from + " by " + quarters;
                due.answers(what, 0, x.turn(0, 0, quarters));
                due.answers("the head after the " + what, sites[(from + quarters) % 4], x.place(0, 1));
            }
        }
        // a moved site may be where another moved site was before
        LatticePaths bar = Look.with("5,5:RDLL");
        due.answers("a turn onto sites that move too", 0, bar.turn(0, 0, 1));
        due.tells("the bar", "55 65 64 54 44", Look.sites(bar, 0));
    }

    private static void turnRefused() {
        LatticePaths x = Look.with("0,0:RRR");
        due.answers("off the lattice upwards", 1, x.turn(0, 0, 3));
        due.answers("off the lattice to the left", 1, x.turn(0, 0, 2));
        due.answers("onto the own sites", 2, x.turn(0, 2, 2));
        due.tells("all", "1 4 0 3 0 4 0 error 0 [0 1 2 3]", Look.at(x));
        x.start(0, 2);
        due.answers("onto another path", 3, x.turn(0, 0, 1));
        due.answers("the refusals", 4, x.count(3));
        due.answers("the turns made", 0, x.count(4));
        due.answers("the saved states", 6, x.count(5));
        LatticePaths low = Look.with("9,9:LLL");
        due.answers("off the lattice to the right", 1, low.turn(0, 0, 2));
        due.answers("off the lattice downwards", 1, low.turn(0, 0, 3));
    }

    private static void turnRefusalsInOrder() {
        // the first site behind the tail would be on itself or another path, the last one off the lattice
        LatticePaths x = Look.with("1,1:RRR", "0,1:");
        due.answers("1 before 3", 1, x.turn(0, 0, 2));
        LatticePaths own = Look.with("0,5:RRRR");
        due.answers("1 before 2", 1, own.turn(0, 1, 2));
        LatticePaths late = Look.with("3,5:RURU", "3,4:");
        due.answers("2 before 3, where 3 applies to an earlier site", 2, late.turn(0, 2, 2));
        LatticePaths early = Look.with("3,4:DRURD", "3,3:");
        due.answers("2 before 3, where 3 applies to a later site", 2, early.turn(0, 3, 2));
        LatticePaths other = Look.with("4,4:RU", "3,4:");
        due.answers("3 of the first of two sites", 3, other.turn(0, 0, 2));
    }

    private static void turnWrongly() {
        LatticePaths x = Look.with("4,4:RR");
        due.throwsIndex(x, "turn(1, 0, 1)", () -> x.turn(1, 0, 1));
        due.throwsIndex(x, "turn(-1, 0, 1)", () -> x.turn(-1, 0, 1));
        due.throwsIndex(x, "turn(0, 3, 1)", () -> x.turn(0, 3, 1));
        due.throwsIndex(x, "turn(0, -1, 1)", () -> x.turn(0, -1, 1));
        due.throwsIndex(x, "turn(0, max, 0)", () -> x.turn(0, Integer.MAX_VALUE, 0));
        due.throwsArgument(x, "turn(0, 0, 0)", () -> x.turn(0, 0, 0));
        due.throwsArgument(x, "turn(0, 0, 4)", () -> x.turn(0, 0, 4));
        due.throwsArgument(x, "turn(0, 2, -1)", () -> x.turn(0, 2, -1));
    }

    private static void reverse() {
        LatticePaths x = Look.with("4,4:RDD", "0,0:");
        due.answers("reverse", 44, x.reverse(0));
        due.tells("its sites", "65 55 45 44", Look.sites(x, 0));
        due.answers("the number of the new head's site", 3, x.site(4, 4, 1));
        due.answers("reverse of one site", 0, x.reverse(1));
        due.answers("the saved states", 4, x.count(5));
        due.throwsIndex(x, "reverse(2)", () -> x.reverse(2));
        due.throwsIndex(x, "reverse(-1)", () -> x.reverse(-1));
    }

    private static void join() {
        LatticePaths x = Look.with("0,0:RR", "5,0:LL");
        due.answers("join", 6, x.join(0, 1));
        due.tells("its sites", "0 1 2 3 4 5", Look.sites(x, 0));
        due.answers("the paths", 1, x.count(0));
        due.answers("joining is no step", 0, x.count(2));
        LatticePaths ones = Look.with("3,3:", "3,4:");
        due.answers("join of single sites", 2, ones.join(1, 0));
        due.tells("the single sites", "43 33", Look.sites(ones, 0));
        LatticePaths sixty = Look.with(Look.snake(30), "0,5:RRRRRRRRRULLLLLLLLLURRRRRRRRR");
        due.answers("the snake's head", 29, sixty.place(0, 29));
        due.answers("the other's head", 39, sixty.place(1, 29));
        due.answers("join to 60 sites", 60, sixty.join(0, 1));
        due.answers("its last head", 50, sixty.place(0, 59));
    }

    private static void joinNumbers() {
        LatticePaths x = Look.with("0,9:", "1,5:R", "0,0:", "3,5:", "9,9:");
        due.answers("join of a later with an earlier path", 3, x.join(3, 1));
        due.tells("all", "4 6 0 0 0 6 0 error 0 [90] [0] [53 52 51] [99]", Look.at(x));
        due.answers("the path of a joined site", 2, x.site(1, 5, 0));
        LatticePaths y = Look.with("0,9:", "1,5:R", "0,0:", "3,5:", "9,9:");
        due.answers("join of an earlier with a later path", 3, y.join(1, 3));
        due.tells("all", "4 6 0 0 0 6 0 error 0 [90] [51 52 53] [0] [99]", Look.at(y));
    }

    private static void joinWrongly() {
        LatticePaths x = Look.with("0,0:RR", "3,0:R", "9,0:", "0,1:");
        due.throwsIndex(x, "join(0, 4)", () -> x.join(0, 4));
        due.throwsIndex(x, "join(4, 0)", () -> x.join(4, 0));
        due.throwsIndex(x, "join(-1, -1)", () -> x.join(-1, -1));
        due.throwsIndex(x, "join(4, 4)", () -> x.join(4, 4));
        due.throwsArgument(x, "join(0, 0)", () -> x.join(0, 0));
        due.throwsState(x, "join where a head and a tail are neighbours", () -> x.join(0, 1));
        due.throwsState(x, "join over the end of a row", () -> x.join(2, 3));
        LatticePaths many = Look.with(Look.snake(30), "0,6:URRRRRRRRRULLLLLLLLLURRRRRRRRR");
        due.answers("the other's head", 39, many.place(1, 30));
        due.throwsState(many, "join to 61 sites", () -> many.join(0, 1));
        due.throwsState(many, "join to 61 sites", () -> many.join(1, 0));
    }

    private static void split() {
        LatticePaths x = Look.with("0,0:RRRR", "9,9:");
        due.answers("split", 2, x.split(0, 1));
        due.tells("all", "3 6 0 0 0 3 0 error 0 [0 1] [99] [2 3 4]", Look.at(x));
        due.answers("split behind the tail", 3, x.split(2, 0));
        due.answers("split before the head", 4, x.split(3, 0));
        due.tells("all", "5 6 0 0 0 5 0 error 0 [0 1] [99] [2] [3] [4]", Look.at(x));
        due.answers("the path of the last site", 4, x.site(4, 0, 0));
        due.answers("its number", 0, x.site(4, 0, 1));
    }

    private static void splitWrongly() {
        LatticePaths x = Look.with("0,0:RRRR", "9,9:");
        due.throwsIndex(x, "split(2, 0)", () -> x.split(2, 0));
        due.throwsIndex(x, "split(-1, 0)", () -> x.split(-1, 0));
        due.throwsIndex(x, "split(0, -1)", () -> x.split(0, -1));
        due.throwsIndex(x, "split(0, 5)", () -> x.split(0, 5));
        due.throwsIndex(x, "split at the head", () -> x.split(0, 4));
        due.throwsIndex(x, "split of one site", () -> x.split(1, 0));
        x.start(5, 5);
        x.start(5, 7);
        x.start(5, 9);
        due.throwsState(x, "split with 5 paths", () -> x.split(0, 0));
        due.throwsIndex(x, "split at the head with 5 paths", () -> x.split(0, 4));
    }

    private static void remove() {
        LatticePaths x = Look.with("0,0:R", "5,5:D", "9,9:");
        due.answers("remove", 2, x.remove(1));
        due.tells("all", "2 3 0 0 0 4 0 error 0 [0 1] [99]", Look.at(x));
        due.answers("the path of a later path's site", 1, x.site(9, 9, 0));
        due.answers("a site that was left", -1, x.site(5, 5, 0));
        due.throwsIndex(x, "remove(2)", () -> x.remove(2));
        due.throwsIndex(x, "remove(-1)", () -> x.remove(-1));
        due.answers("remove the last", 1, x.remove(1));
        due.answers("remove the first", 0, x.remove(0));
        due.throwsIndex(x, "remove(0)", () -> x.remove(0));
        due.answers("start anew", 0, x.start(0, 0));
    }
}
