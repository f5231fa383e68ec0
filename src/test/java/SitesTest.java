/** Promises 19 to 26: queries about sites and paths. */
public final class SitesTest {
    private static final Due due = new Due("SitesTest");

    public static void main(String[] args) {
        site();
        siteWrongly();
        place();
        path();
        pathOfOneSite();
        corners();
        contacts();
        spans();
        moment();
        border();
        headDirections();
        pathWrongly();
        trapped();
        touching();
        touchingWrongly();
        shape();
        shapeOfEachView();
        shapeWrongly();
        isAlike();
        isAlikeWrongly();
        free();
        freeOfFullLattice();
        regionsAtHeads();
        freeWrongly();
        due.end();
    }

    private static void site() {
        LatticePaths x = Look.with("0,0:RD", "4,4:", "5,5:UR");
        due.answers("the path at a tail", 0, x.site(0, 0, 0));
        due.answers("the number of a tail", 0, x.site(0, 0, 1));
        due.answers("the path at a head", 0, x.site(1, 1, 0));
        due.answers("the number of a head", 2, x.site(1, 1, 1));
        due.answers("the path of the second", 1, x.site(4, 4, 0));
        due.answers("the number in the third", 1, x.site(5, 4, 1));
        due.answers("the path at a free site", -1, x.site(0, 1, 0));
        due.answers("the number at a free site", -1, x.site(0, 1, 1));
        due.answers("column and row are not exchanged", -1, x.site(4, 5, 0));
        due.answers("the directions at a corner", 4, x.site(0, 0, 2));
        due.answers("the directions at a head", 2 + 4 + 8, x.site(1, 1, 2));
        due.answers("the directions at the second", 1 + 4 + 8, x.site(4, 4, 2));
        due.answers("the directions at a free site", 15, x.site(8, 8, 2));
        due.answers("the directions at the last corner", 1 + 8, x.site(9, 9, 2));
        due.answers("the directions at the right upper corner", 4 + 8, x.site(9, 0, 2));
        due.answers("the directions at the left lower corner", 1 + 2, x.site(0, 9, 2));
        due.answers("the directions at a free site between", 4, x.site(0, 1, 2));
    }

    private static void siteWrongly() {
        LatticePaths x = Look.with("4,4:");
        due.throwsIndex(x, "site(10, 0, 0)", () -> x.site(10, 0, 0));
        due.throwsIndex(x, "site(-1, 0, 0)", () -> x.site(-1, 0, 0));
        due.throwsIndex(x, "site(0, 10, 0)", () -> x.site(0, 10, 0));
        due.throwsIndex(x, "site(0, -1, 3)", () -> x.site(0, -1, 3));
        due.throwsArgument(x, "site(0, 0, 3)", () -> x.site(0, 0, 3));
        due.throwsArgument(x, "site(0, 0, -1)", () -> x.site(0, 0, -1));
    }

    private static void place() {
        LatticePaths x = Look.with("9,9:", "2,3:RU");
        due.answers("the only site", 99, x.place(0, 0));
        due.answers("the tail", 32, x.place(1, 0));
        due.answers("the middle", 33, x.place(1, 1));
        due.answers("the head", 23, x.place(1, 2));
        due.answers("behind the head", -1, x.place(1, 3));
        due.answers("before the tail", -1, x.place(1, -1));
        due.answers("place 60", -1, x.place(1, 60));
        due.answers("the greatest place", -1, x.place(1, Integer.MAX_VALUE));
        due.answers("the least place", -1, x.place(1, Integer.MIN_VALUE));
        due.throwsIndex(x, "place(2, 0)", () -> x.place(2, 0));
        due.throwsIndex(x, "place(-1, 0)", () -> x.place(-1, 0));
        x.back(1);
        due.answers("where the head was", -1, x.place(1, 2));
    }

    private static void path() {
        LatticePaths x = Look.with("3,4:RRDDLLU", "9,9:");
        due.answers("0 its sites", 8, x.path(0, 0));
        due.answers("1 its corners", 3, x.path(0, 1));
        due.answers("2 its contacts", 1, x.path(0, 2));
        due.answers("3 its width", 3, x.path(0, 3));
        due.answers("4 its height", 3, x.path(0, 4));
        due.answers("5 its squared distance", 1, x.path(0, 5));
        due.answers("6 its head's directions", 2 + 8, x.path(0, 6));
        due.answers("7 its moment", 8 * 12, x.path(0, 7));
        due.answers("8 its border", 13, x.path(0, 8));
    }

    private static void pathOfOneSite() {
        LatticePaths x = Look.with("7,2:");
        int[] want = {1, 0, 0, 1, 1, 0, 15, 0, 4};
        for (int what = 0; what <= 8; what++) {
            due.answers("path(0, " + what + ") of one site", want[what], x.path(0, what));
        }
    }

    private static void corners() {
        due.answers("two sites", 0, Look.with("4,4:R").path(0, 1));
        due.answers("a straight path", 0, Look.with("4,4:RRRR").path(0, 1));
        due.answers("a corner at the first step", 1, Look.with("4,4:RDD").path(0, 1));
        due.answers("a corner at the last step", 1, Look.with("4,4:RRU").path(0, 1));
        due.answers("stairs", 5, Look.with("4,4:RDRDRD").path(0, 1));
        due.answers("a snake", 10, Look.with(Look.snake(60)).path(0, 1));
    }

    private static void contacts() {
        due.answers("a straight path", 0, Look.with("4,4:RRRR").path(0, 2));
        due.answers("a hook", 1, Look.with("4,4:RDL").path(0, 2));
        due.answers("a long hook", 2, Look.with("4,4:RRDLL").path(0, 2));
        due.answers("a spiral", 4, Look.with("4,4:RDLLUURRR").path(0, 2));
        due.answers("a snake", 45, Look.with(Look.snake(60)).path(0, 2));
        due.answers("contacts with another path do not count", 0, Look.with("4,4:RRR", "4,5:RRR").path(0, 2));
    }

    private static void spans() {
        LatticePaths x = Look.with("0,3:RRRRRRRRRD", "9,9:UUUU", "8,9:");
        due.answers("the width over all columns", 10, x.path(0, 3));
        due.answers("the height of two rows", 2, x.path(0, 4));
        due.answers("the squared distance", 82, x.path(0, 5));
        due.answers("the width of one column", 1, x.path(1, 3));
        due.answers("the height of five rows", 5, x.path(1, 4));
        due.answers("the squared distance", 16, x.path(1, 5));
        due.answers("the width of one site", 1, x.path(2, 3));
    }

    private static void moment() {
        due.answers("two sites", 1, Look.with("9,9:L").path(0, 7));
        due.answers("three sites in a row", 6, Look.with("0,9:RR").path(0, 7));
        due.answers("three sites in a column", 6, Look.with("9,3:UU").path(0, 7));
        due.answers("three sites round a corner", 4, Look.with("5,5:RD").path(0, 7));
        // 60 sites: columns 0 to 9 six times, rows 0 to 5 ten times
        long moment = 60L * (6 * 285 + 10 * 55) - 270L * 270L - 150L * 150L;
        due.answers("a snake", moment, Look.with(Look.snake(60)).path(0, 7));
    }

    private static void border() {
        due.answers("a corner of the lattice", 2, Look.with("0,0:").path(0, 8));
        due.answers("beside the first corner", 3, Look.with("1,0:").path(0, 8));
        due.answers("beside the last corner", 3, Look.with("8,9:").path(0, 8));
        due.answers("two sites", 6, Look.with("4,4:R").path(0, 8));
        due.answers("a site inside counts once", 7, Look.with("4,4:RD").path(0, 8));
        due.answers("what is not free does not count", 5, Look.with("4,4:R", "3,4:").path(0, 8));
        due.answers("a snake over six rows", 10, Look.with(Look.snake(60)).path(0, 8));
    }

    private static void headDirections() {
        due.answers("behind a step to the right", 1 + 2 + 4, Look.with("4,4:R").path(0, 6));
        due.answers("at the end of a row", 1 + 4, Look.with("8,4:R").path(0, 6));
        due.answers("at the start of a row", 1 + 4, Look.with("1,4:L").path(0, 6));
        due.answers("at the tail of another", 1 + 4, Look.with("4,4:R", "6,4:R").path(0, 6));
        due.answers("a trapped head", 0, Look.with("0,1:RUL").path(0, 6));
    }

    private static void pathWrongly() {
        LatticePaths x = Look.with("4,4:");
        due.throwsIndex(x, "path(1, 0)", () -> x.path(1, 0));
        due.throwsIndex(x, "path(-1, 0)", () -> x.path(-1, 0));
        due.throwsIndex(x, "path(1, 9)", () -> x.path(1, 9));
        due.throwsArgument(x, "path(0, 9)", () -> x.path(0, 9));
        due.throwsArgument(x, "path(0, -1)", () -> x.path(0, -1));
    }

    private static void trapped() {
        due.answers("no path", 0, new LatticePaths().trapped());
        LatticePaths x = Look.with("9,9:", "0,1:RUL", "4,4:", "0,9:U");
        due.answers("the second path", 2, x.trapped());
        x.reverse(1);
        due.answers("none behind its reversal", 0, x.trapped());
        LatticePaths y = Look.with("0,0:", "1,0:D", "0,1:", "9,9:");
        due.answers("a single site and another", 1, y.trapped());
        x.start(8, 9);
        due.answers("one neighbour is left", 0, x.trapped());
        LatticePaths z = Look.with("0,9:", "9,9:", "1,9:", "0,8:", "8,9:U");
        due.answers("the first of five", 1, z.trapped());
        z.step(4, 1);
        due.answers("the first and the second of five", 3, z.trapped());
        LatticePaths full = Look.with(Look.snake(60), "0,6:RRRRRRRRRDLLLLLLLLLDRRRRRRRRRDLLLLLLLLL");
        full.split(0, 40);
        full.split(0, 20);
        full.split(1, 10);
        due.answers("all five", 31, full.trapped());
    }

    private static void touching() {
        LatticePaths x = Look.with("2,2:RRR", "2,3:RR", "6,2:U", "9,9:", "1,1:");
        due.answers("side by side", 3, x.touching(0, 1));
        due.answers("side by side, the other way", 3, x.touching(1, 0));
        due.answers("end to end", 1, x.touching(0, 2));
        due.answers("only corner to corner", 0, x.touching(0, 4));
        due.answers("far away", 0, x.touching(1, 3));
        due.answers("a site between two arms", 2, Look.with("2,2:DRR", "3,2:").touching(0, 1));
        due.answers("over the end of a row", 0, Look.with("9,2:", "0,3:").touching(0, 1));
        due.answers("all round", 4, Look.with("4,4:", "3,4:URRDDLL").touching(0, 1));
    }

    private static void touchingWrongly() {
        LatticePaths x = Look.with("4,4:", "4,5:");
        due.throwsIndex(x, "touching(2, 0)", () -> x.touching(2, 0));
        due.throwsIndex(x, "touching(0, 2)", () -> x.touching(0, 2));
        due.throwsIndex(x, "touching(-1, 0)", () -> x.touching(-1, 0));
        due.throwsIndex(x, "touching(2, 2)", () -> x.touching(2, 2));
        due.throwsArgument(x, "touching(1, 1)", () -> x.touching(1, 1));
    }

    private static String shapeOf(LatticePaths x, int path) {
        StringBuilder told = new StringBuilder();
        for (int index = 0; index < 60 && x.shape(path, index) != -1; index++) {
            told.append(x.shape(path, index));
        }
        return told.toString();
    }

    private static void shape() {
        due.tells("one site", "", shapeOf(Look.with("4,4:"), 0));
        due.tells("two sites", "0", shapeOf(Look.with("4,4:L"), 0));
        due.tells("a straight path", "000", shapeOf(Look.with("4,4:DDD"), 0));
        due.tells("a corner", "01", shapeOf(Look.with("4,4:LD"), 0));
        due.tells("a long end behind", "001", shapeOf(Look.with("4,4:RDD"), 0));
        due.tells("a long end before", "001", shapeOf(Look.with("4,4:RRD"), 0));
        due.tells("a hook", "012", shapeOf(Look.with("4,4:RUL"), 0));
        due.tells("a step", "010", shapeOf(Look.with("4,4:RUR"), 0));
        due.tells("a hook with a long end", "0012", shapeOf(Look.with("4,4:RDLL"), 0));
        due.tells("a snake", "000000000" + "1" + "222222222" + "1" + "0", shapeOf(Look.with(Look.snake(22)), 0));
    }

    /** However the path is turned, mirrored or reversed, its shape is the same one. */
    private static void shapeOfEachView() {
        String[] views = {
            "RRURDR", "DDRDLD", "LLDLUL", "UULURU", "LLULDL", "UURULU", "RRDRUR", "DDLDRD",
            "LULDLL", "ULURUU", "RDRURR", "DRDLDD", "RURDRR", "URULUU", "LDLULL", "DLDRDD",
        };
        for (String view : views) {
            LatticePaths x = Look.with("4,4:" + view);
            due.tells("the shape of " + view, "001030", shapeOf(x, 0));
        }
    }

    private static void shapeWrongly() {
        LatticePaths x = Look.with("4,4:RU");
        due.answers("shape(0, 2)", -1, x.shape(0, 2));
        due.answers("shape(0, 60)", -1, x.shape(0, 60));
        due.answers("shape(0, max)", -1, x.shape(0, Integer.MAX_VALUE));
        due.throwsIndex(x, "shape(1, 0)", () -> x.shape(1, 0));
        due.throwsIndex(x, "shape(-1, 0)", () -> x.shape(-1, 0));
        due.throwsIndex(x, "shape(1, -1)", () -> x.shape(1, -1));
        due.throwsArgument(x, "shape(0, -1)", () -> x.shape(0, -1));
        due.throwsArgument(x, "shape(0, min)", () -> x.shape(0, Integer.MIN_VALUE));
    }

    private static void isAlike() {
        LatticePaths x = Look.with("0,0:RRD", "9,9:UUL", "0,9:URR", "5,5:RUR", "9,0:LLL");
        due.holds("a path is like itself", x.isAlike(3, 3));
        due.holds("a turned path is alike", x.isAlike(0, 1));
        due.holds("a reversed and mirrored path is alike", x.isAlike(0, 2));
        due.holds("a hook is not like a step", !x.isAlike(0, 3));
        due.holds("a straight path is not like a bent one", !x.isAlike(4, 0));
        LatticePaths y = Look.with("0,0:RR", "0,5:RRR", "9,9:", "9,0:", "5,5:R");
        due.holds("a shorter path is not like a longer one", !y.isAlike(0, 1));
        due.holds("a longer path is not like a shorter one", !y.isAlike(1, 0));
        due.holds("one site is like another one", y.isAlike(2, 3));
        due.holds("one site is not like two", !y.isAlike(2, 4));
        LatticePaths z = Look.with("0,0:RRDRR", "0,9:RRURR", "0,5:RRDLL", "9,9:LLULD");
        due.holds("mirrored paths are alike", z.isAlike(0, 1));
        due.holds("they differ in the fourth step", !z.isAlike(0, 2));
        due.holds("they differ in the last step", !z.isAlike(0, 3));
    }

    private static void isAlikeWrongly() {
        LatticePaths x = Look.with("4,4:RU");
        due.throwsIndex(x, "isAlike(0, 1)", () -> x.isAlike(0, 1) ? 1 : 0);
        due.throwsIndex(x, "isAlike(1, 0)", () -> x.isAlike(1, 0) ? 1 : 0);
        due.throwsIndex(x, "isAlike(-1, 0)", () -> x.isAlike(-1, 0) ? 1 : 0);
        due.throwsIndex(x, "isAlike(0, -1)", () -> x.isAlike(0, -1) ? 1 : 0);
    }

    private static void free() {
        LatticePaths x = new LatticePaths();
        due.answers("all sites are free", 100, x.free(0));
        due.answers("one region", 1, x.free(1));
        due.answers("all in it", 100, x.free(2));
        due.answers("no head", 0, x.free(3));
        Look.draw(x, "3,0:DDDDDDDDD");
        due.answers("a column less", 90, x.free(0));
        due.answers("two regions", 2, x.free(1));
        due.answers("the greater one", 60, x.free(2));
        due.answers("both at the head", 2, x.free(3));
        Look.draw(x, "0,1:RU");
        due.answers("three regions", 3, x.free(1));
        due.answers("the greatest one", 60, x.free(2));
        due.answers("all three at heads", 3, x.free(3));
        due.answers("the free sites", 87, x.free(0));
        due.answers("a region that goes down and up again", 1, Look.with("1,0:DDDDDDDD").free(1));
        due.answers("a region that goes up and down again", 1, Look.with("1,1:DDDDDDDD").free(1));
        due.answers("a region that goes left and right again", 1, Look.with("1,1:RRRRRRRR").free(1));
        LatticePaths corner = Look.with("1,0:", "0,1:");
        due.answers("sites that meet at their corners alone are in two regions", 2, corner.free(1));
    }

    private static void freeOfFullLattice() {
        LatticePaths x = Look.with(Look.snake(60), "0,6:RRRRRRRRRDLLLLLLLLLDRRRRRRRRRDLLLLLLLL");
        due.answers("one free site", 1, x.free(0));
        due.answers("one region of it", 1, x.free(1));
        due.answers("its sites", 1, x.free(2));
        due.answers("one region at a head", 1, x.free(3));
        x.step(1, 3);
        due.answers("no free site", 0, x.free(0));
        due.answers("no region", 0, x.free(1));
        due.answers("no greatest region", 0, x.free(2));
        due.answers("no region at a head", 0, x.free(3));
        due.answers("both are trapped", 3, x.trapped());
    }

    private static void regionsAtHeads() {
        LatticePaths x = Look.with("3,0:DDDDDDDDD");
        x.reverse(0);
        due.answers("both at the head above", 2, x.free(3));
        LatticePaths y = Look.with("0,3:RRRRRRRRR", "0,5:RRRRRRRRR");
        due.answers("three regions", 3, y.free(1));
        due.answers("all at the two heads, the middle one once", 3, y.free(3));
        LatticePaths z = Look.with("0,1:RUR");
        due.answers("two regions", 2, z.free(1));
        due.answers("only one of them at the head", 1, z.free(3));
        z.reverse(0);
        due.answers("both at the other end", 2, z.free(3));
        z.reverse(0);
        due.answers("only one again", 1, z.free(3));
    }

    private static void freeWrongly() {
        LatticePaths x = Look.with("4,4:RU");
        due.throwsArgument(x, "free(-1)", () -> x.free(-1));
        due.throwsArgument(x, "free(4)", () -> x.free(4));
    }
}
