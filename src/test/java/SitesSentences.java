/** The sentences of promises 19 to 26. */
final class SitesSentences {
    private static final String REST = "0,6:RRRRRRRRRDLLLLLLLLLDRRRRRRRRRDLLLLLLLLL";

    private final Due due;
    private final Sentences document;
    private final Edges edges;

    SitesSentences(Due due, Sentences document) {
        this.due = due;
        this.document = document;
        this.edges = new Edges(due);
    }

    void test() {
        site();
        place();
        path();
        trapped();
        touching();
        shape();
        isAlike();
        free();
    }

    // ---- promise 19

    private void site() {
        document.under("Promise 19");
        document.says("Returns a number of a site.", () -> {
            LatticePaths x = Look.with(Edges.FIVE);
            due.tells("what stands on the sites", Look.sitesOfPaths(x), Look.marks(x));
            edges.savesNothing("site", x, () -> x.site(0, 0, 0));
        });
        document.says("- `column`: 0 to 9", () -> edges.takes("the column", 0, 9, (x, column) -> x.site(column, 9, 2)));
        document.says("- `row`: 0 to 9", () -> edges.takes("the row", 0, 9, (x, row) -> x.site(9, row, 2)));
        document.says("- `what`: 0 the path in which it is, 1 its number in this path (NONE for 0 and 1 if it is"
                + " free), 2 the directions in which it has a free neighbour, as a set", this::siteNumbers);
        document.says("Returns the number.", () -> {
            LatticePaths x = Look.with(Look.snake(60), REST);
            due.answers("the path of the last site", 1, x.site(0, 9, 0));
            due.answers("the number of the 60th site", 59, x.site(0, 5, 1));
            due.answers("no direction", 0, x.site(0, 9, 2));
            due.answers("each direction", 15, new LatticePaths().site(5, 5, 2));
        });
        document.says("Throws `IndexOutOfBoundsException` if there is no such site", () -> {
            for (int what = 0; what <= 2; what++) {
                int some = what;
                edges.throwsIndex("the column", 0, 9, (x, column) -> x.site(column, 4, some), "4,4:");
                edges.throwsIndex("the row", 0, 9, (x, row) -> x.site(4, row, some), "4,4:");
            }
        });
        document.says("Throws `IllegalArgumentException` if what is not 0 to 2", () -> {
            edges.throwsArgument("what of a free site", 0, 2, (x, what) -> x.site(0, 0, what), "4,4:");
            edges.throwsArgument("what of a taken site", 0, 2, (x, what) -> x.site(4, 4, what), "4,4:");
        });
    }

    private void siteNumbers() {
        LatticePaths x = Look.with("0,0:RD", "4,4:", "5,5:UR");
        due.answers("0 of a tail", 0, x.site(0, 0, 0));
        due.answers("1 of a tail", 0, x.site(0, 0, 1));
        due.answers("0 of a head", 2, x.site(6, 4, 0));
        due.answers("1 of a head", 2, x.site(6, 4, 1));
        due.answers("0 of a free site", -1, x.site(0, 1, 0));
        due.answers("1 of a free site", -1, x.site(0, 1, 1));
        due.answers("2 of a free site between two others", 4, x.site(0, 1, 2));
        due.answers("2 of a free site", 15, x.site(8, 8, 2));
        due.answers("2 of a tail in a corner", 4, x.site(0, 0, 2));
        due.answers("2 of a site between, beside another path", 1, x.site(5, 4, 2));
        due.answers("2 of a site in the last corner", 1 + 8, x.site(9, 9, 2));
    }

    // ---- promise 20

    private void place() {
        document.under("Promise 20");
        document.says("Returns a site of a path.", () -> {
            LatticePaths x = Look.with("0,0:", "2,3:RUU");
            due.answers("its tail", 32, x.place(1, 0));
            due.answers("its second site", 33, x.place(1, 1));
            due.answers("its head", 13, x.place(1, 3));
            edges.savesNothing("place", x, () -> x.place(1, 4));
        });
        document.says("- `path`: its number", () ->
                edges.eachPath("the second site", (x, path) -> x.place(path, 1), 1, 23, 27, 61, 75));
        document.says("- `place`: the number of the site in the path", () -> {
            LatticePaths x = Look.with(Look.snake(60));
            for (int place = 0; place < 60; place++) {
                int row = place / 10;
                int column = row % 2 == 0 ? place % 10 : 9 - place % 10;
                due.answers("site " + place, 10 * row + column, x.place(0, place));
            }
        });
        document.says("Returns 10 * row + column; NONE if it has no such site.", () -> {
            due.answers("the first site of the lattice", 0, Look.with("0,0:").place(0, 0));
            due.answers("the last site of the lattice", 99, Look.with("9,9:").place(0, 0));
            due.answers("column 9, row 0", 9, Look.with("9,0:").place(0, 0));
            due.answers("column 0, row 9", 90, Look.with("0,9:").place(0, 0));
            for (String path : new String[] {"4,4:", "4,4:RR", Look.snake(60)}) {
                LatticePaths x = Look.with(path);
                for (int place : new int[] {-1, Integer.MIN_VALUE, x.path(0, 0), 60, 61, 100, Integer.MAX_VALUE}) {
                    due.answers("place " + place + " of " + path, -1, x.place(0, place));
                }
            }
            LatticePaths shorter = Look.with("4,4:RR");
            shorter.back(0);
            due.answers("where the head was", -1, shorter.place(0, 2));
        });
        document.says("Throws `IndexOutOfBoundsException` if there is no such path", () -> {
            edges.noSuchPath("place", (x, path) -> x.place(path, 0));
            edges.noSuchPath("place where no site is", (x, path) -> x.place(path, -1));
        });
    }

    // ---- promise 21

    private void path() {
        document.under("Promise 21");
        document.says("Returns a number of a path.", () -> {
            LatticePaths x = Look.with("3,4:RRDDLLU", "9,9:");
            int[] want = {8, 3, 1, 3, 3, 1, 10, 96, 13};
            for (int what = 0; what <= 8; what++) {
                due.answers("path(0, " + what + ") of a ring", want[what], x.path(0, what));
            }
            edges.savesNothing("path", x, () -> x.path(0, 7));
        });
        document.says("- `path`: its number", () -> {
            edges.eachPath("the sites", (x, path) -> x.path(path, 0), 2, 3, 4, 5, 6);
            edges.eachPath("the corners", (x, path) -> x.path(path, 1), 0, 1, 2, 2, 0);
            edges.eachPath("the width", (x, path) -> x.path(path, 3), 2, 2, 2, 2, 6);
        });
        document.says("- `what`: 0 its sites; 1 its corners: the steps that have another direction than the step"
                + " before; 2 its contacts: the pairs of its sites that are neighbours, but do not follow one"
                + " another; 3 its width: the greatest column less the least one, plus 1; 4 its height likewise; 5"
                + " the squared distance of its tail and its head: the squares of the differences of columns and"
                + " rows, together; 6 the directions in which its head has a free neighbour, as a set; 7 its moment:"
                + " the number of its sites times the sum of the squares of all columns and rows, less the square of"
                + " the sum of the columns, less the square of the sum of the rows; 8 the number of free sites that"
                + " are neighbours of one or more of its sites", this::pathNumbers);
        document.says("Returns the number.", () -> {
            int[] one = {1, 0, 0, 1, 1, 0, 15, 0, 4};
            int[] sixty = {60, 10, 45, 10, 6, 25, 4, 40200, 10};
            int[] ring = {60, 11, 45, 10, 6, 1, 0, 40200, 10};
            for (int what = 0; what <= 8; what++) {
                due.answers("path(0, " + what + ") of one site", one[what], Look.with("4,4:").path(0, what));
                due.answers("path(0, " + what + ") of 60", sixty[what], Look.with(Look.snake(60)).path(0, what));
                due.answers("path(0, " + what + ") of a ring", ring[what], Look.with(Look.ring()).path(0, what));
            }
        });
        document.says("Throws `IndexOutOfBoundsException` if there is no such path", () -> {
            for (int what = 0; what <= 8; what++) {
                int some = what;
                edges.noSuchPath("path(.., " + what + ")", (x, path) -> x.path(path, some));
            }
        });
        document.says("Throws `IllegalArgumentException` if what is not 0 to 8",
                () -> edges.throwsArgument("what", 0, 8, (x, what) -> x.path(0, what), "4,4:RD"));
    }

    private void pathNumbers() {
        cornersAndContacts();
        spans();
        headDirections();
        moments();
        borders();
    }

    private void number(int want, int what, String... paths) {
        due.answers("path(0, " + what + ") of " + String.join(" ", paths), want, Look.with(paths).path(0, what));
    }

    private void cornersAndContacts() {
        number(0, 1, "4,4:R");
        number(0, 1, "4,4:RRRR");
        number(1, 1, "4,4:RDD");
        number(1, 1, "4,4:RRU");
        number(2, 1, "4,4:RDL");
        number(5, 1, "4,4:RDRDRD");
        number(0, 2, "4,4:R");
        number(0, 2, "4,4:RDRDRD");
        number(1, 2, "4,4:RDL");
        number(2, 2, "4,4:RRDLL");
        number(1, 2, "0,1:RUL");
        number(1, 2, "9,8:LDR");
        number(4, 2, "4,4:RDLLUURRR");
        number(0, 2, "4,4:RRR", "4,5:RRR");
        // the last site of a row and the first one of the next are no neighbours
        number(0, 2, "9,3:DLLLLLLLLLU");
    }

    private void spans() {
        number(1, 3, "9,4:D");
        number(1, 3, "0,4:D");
        number(1, 4, "4,0:R");
        number(1, 4, "4,9:R");
        number(2, 4, "9,4:D");
        number(10, 3, "0,3:RRRRRRRRR");
        number(1, 4, "0,3:RRRRRRRRR");
        number(10, 4, "3,9:UUUUUUUUU");
        number(3, 3, "4,4:LLUR");
        number(2, 4, "4,4:LLUR");
        number(0, 5, "4,4:");
        number(1, 5, "4,4:RDL");
        number(2, 5, "4,4:RD");
        number(81, 5, "0,3:RRRRRRRRR");
        number(162, 5, "0,0:RRRRRRRRRDDDDDDDDD");
        number(162, 5, "9,9:LLLLLLLLLUUUUUUUUU");
        number(82, 5, "9,3:LLLLLLLLLD");
    }

    private void headDirections() {
        number(15, 6, "4,4:");
        number(1 + 2 + 4, 6, "4,4:R");
        number(2 + 4, 6, "0,0:");
        number(1 + 4, 6, "8,4:R");
        number(1 + 4, 6, "1,4:L");
        number(1 + 4, 6, "4,4:R", "6,4:R");
        number(0, 6, "0,1:RUL");
        number(4, 6, Look.snake(60));
    }

    private void moments() {
        number(0, 7, "9,9:");
        number(1, 7, "9,9:L");
        number(1, 7, "0,0:R");
        number(6, 7, "4,4:RR");
        number(6, 7, "4,9:UU");
        number(4, 7, "4,4:RD");
        number(96, 7, "3,4:RRDDLLU");
        // ten sites in a row: 10 * 285 less 45 * 45
        number(825, 7, "0,9:RRRRRRRRR");
    }

    private void borders() {
        number(4, 8, "4,4:");
        number(2, 8, "0,0:");
        number(3, 8, "0,4:");
        // the first site and the last one are such neighbours too
        number(3, 8, "1,0:");
        number(3, 8, "8,9:");
        number(6, 8, "4,4:R");
        number(7, 8, "4,4:RD");
        number(8, 8, "4,4:RDL");
        number(3, 8, "4,4:", "4,5:");
        number(0, 8, "0,0:", "1,0:", "0,1:");
        // the site inside the ring counts once
        number(13, 8, "3,4:RRDDLLU");
    }

    // ---- promise 22

    private void trapped() {
        document.under("Promise 22");
        document.says("Returns the paths that are trapped: whose head has no free neighbour.", () -> {
            due.answers("no path", 0, new LatticePaths().trapped());
            due.answers("a path with a free way", 0, Look.with("0,1:RU").trapped());
            due.answers("a path round its own head", 1, Look.with("0,1:RUL").trapped());
            due.answers("a path with its tail shut in alone", 0, Look.with("0,0:RDL").trapped());
            due.answers("one site between others", 1, Look.with("4,4:", "4,3:", "5,4:", "4,5:", "3,4:").trapped());
            due.answers("one of its neighbours is free", 0, Look.with("4,4:", "4,3:", "5,4:", "4,5:").trapped());
            due.answers("60 sites with a free way", 0, Look.with(Look.snake(60)).trapped());
            due.answers("a ring with its tail beside its head", 1, Look.with(Look.ring()).trapped());
            LatticePaths x = Look.with("0,1:RUL");
            edges.savesNothing("trapped", x, () -> x.trapped());
        });
        document.says("Returns the paths as a bit mask.", () -> {
            LatticePaths x = Look.with(Look.snake(60), REST);
            x.split(0, 40);
            x.split(0, 20);
            x.split(1, 10);
            due.answers("all five", 31, x.trapped());
            x.back(4);
            due.answers("all but the last", 15, x.trapped());
            LatticePaths last = Look.with("5,5:", "5,7:", "5,9:", "9,1:", "0,1:RUL");
            due.answers("the last of five", 16, last.trapped());
            LatticePaths middle = Look.with("5,5:", "5,7:", "0,1:RUL", "9,1:LUR", "5,9:");
            due.answers("two of five", 4 + 8, middle.trapped());
        });
    }

    // ---- promise 23

    private void touching() {
        document.under("Promise 23");
        document.says("Returns the number of pairs of neighbours of which one is in a path and the other one in"
                + " another path.", () -> {
            touches(3, "2,2:RRR", "2,3:RR");
            touches(1, "2,2:RRR", "6,2:U");
            touches(2, "2,2:DRR", "3,2:");
            touches(4, "4,4:", "3,4:URRDDLL");
            touches(10, "0,4:RRRRRRRRR", "0,5:RRRRRRRRR");
            touches(0, "4,4:", "5,5:");
            touches(0, "4,4:", "4,6:");
            touches(0, "9,2:", "0,3:");
            touches(0, "0,2:", "9,2:");
            touches(0, "2,0:", "2,9:");
            touches(10, Look.snake(60), REST);
            LatticePaths x = Look.with("4,4:", "5,4:");
            edges.savesNothing("touching", x, () -> x.touching(0, 1));
        });
        document.says("- `path`: the number of the one", () -> {
            LatticePaths x = sideBySide();
            int[] want = {2, 3, 3, 0, 0};
            for (int path = 0; path < 5; path++) {
                due.answers("touching of " + path, want[path], x.touching(path, path == 1 ? 2 : 1));
            }
        });
        document.says("- `other`: the number of the other one", () -> {
            LatticePaths x = sideBySide();
            int[] want = {0, 3, 3, 1, 0};
            for (int other = 0; other < 5; other++) {
                due.answers("touching with " + other, want[other], x.touching(other == 2 ? 1 : 2, other));
            }
        });
        document.says("Returns the number of pairs.", () -> {
            touches(0, "4,4:", "9,9:");
            touches(1, "4,4:", "4,5:");
            touches(2, "4,4:R", "4,5:R");
        });
        document.says("Throws `IndexOutOfBoundsException` if there is no such path", () -> {
            edges.noSuchPath("touching of the one", (x, path) -> x.touching(path, 0));
            edges.noSuchPath("touching of the other", (x, path) -> x.touching(0, path));
            edges.noSuchPath("touching of both", (x, path) -> x.touching(path, path));
        });
        document.says("Throws `IllegalArgumentException` if both are the same", () -> {
            for (int path = 0; path < 5; path++) {
                int same = path;
                LatticePaths x = Look.with(Edges.FIVE);
                due.throwsArgument(x, "touching of " + path + " with itself", () -> x.touching(same, same));
            }
        });
    }

    private static LatticePaths sideBySide() {
        return Look.with("0,0:D", "1,0:DD", "2,0:DDD", "3,0:", "4,0:");
    }

    private void touches(int pairs, String one, String other) {
        LatticePaths x = Look.with(one, other);
        due.answers("touching of " + one + " and " + other, pairs, x.touching(0, 1));
        due.answers("touching of " + other + " and " + one, pairs, x.touching(1, 0));
    }

    // ---- promise 24

    private void shape() {
        document.under("Promise 24");
        document.says("Returns a step of the shape of a path.", () -> {
            LatticePaths x = Look.with("4,4:RDLL");
            int[] steps = {0, 0, 1, 2};
            for (int index = 0; index < 4; index++) {
                due.answers("shape(0, " + index + ")", steps[index], x.shape(0, index));
            }
            edges.savesNothing("shape", x, () -> x.shape(0, 0));
        });
        document.says("The shape is the row of steps that is least when they are compared one by one from the first"
                + " one on, of all rows of steps that the path has from its tail or from its head, turned by 0 to 3"
                + " quarters, mirrored (left and right exchanged) or not.", this::shapes);
        document.says("- `path`: its number", () -> edges.eachPath("the second step of the shape",
                (x, path) -> x.shape(path, 1), -1, 1, 1, 0, 0));
        document.says("- `index`: 0 for the first step, and so on", () -> {
            String thereAndBack = "0".repeat(9) + "1" + "2".repeat(9);
            due.tells("each step of a path of 60 sites", thereAndBack + "1" + thereAndBack + "1" + thereAndBack,
                    shapeOf(Look.snake(60)));
            due.answers("the last step of 60 sites", 2, Look.with(Look.snake(60)).shape(0, 58));
        });
        document.says("Returns the direction; NONE if there are not so many steps.", () -> {
            due.answers("the first step of one site", -1, Look.with("4,4:").shape(0, 0));
            due.answers("the first step of two sites", 0, Look.with("4,4:L").shape(0, 0));
            due.answers("the second step of two sites", -1, Look.with("4,4:L").shape(0, 1));
            due.answers("step 59 of 60 sites", -1, Look.with(Look.snake(60)).shape(0, 59));
            due.answers("step 60 of 60 sites", -1, Look.with(Look.snake(60)).shape(0, 60));
            due.answers("the greatest index", -1, Look.with(Look.snake(60)).shape(0, Integer.MAX_VALUE));
            LatticePaths x = Look.with("4,4:RDRD");
            due.answers("the third step", 0, x.shape(0, 2));
            x.back(0);
            x.back(0);
            due.answers("the third step of what is left", -1, x.shape(0, 2));
        });
        document.says("Throws `IndexOutOfBoundsException` if there is no such path", () -> {
            edges.noSuchPath("shape", (x, path) -> x.shape(path, 0));
            edges.noSuchPath("shape of a far step", (x, path) -> x.shape(path, 100));
        });
        document.says("Throws `IllegalArgumentException` if index is negative", () -> {
            for (int index : new int[] {-1, -2, -60, Integer.MIN_VALUE}) {
                LatticePaths x = Look.with("4,4:", "5,5:RR");
                due.throwsArgument(x, "shape(0, " + index + ")", () -> x.shape(0, index));
                due.throwsArgument(x, "shape(1, " + index + ")", () -> x.shape(1, index));
            }
        });
    }

    private static String shapeOf(String path) {
        LatticePaths x = Look.with(path);
        StringBuilder told = new StringBuilder();
        for (int index = 0; index < x.path(0, 0) - 1; index++) {
            told.append(x.shape(0, index));
        }
        return told.toString();
    }

    private void shapes() {
        due.tells("a straight path", "000", shapeOf("4,4:DDD"));
        due.tells("a corner", "01", shapeOf("4,4:LD"));
        due.tells("least from its head", "001", shapeOf("4,4:RDD"));
        due.tells("least from its tail", "001", shapeOf("4,4:RRD"));
        due.tells("a hook", "012", shapeOf("4,4:RUL"));
        due.tells("stairs", "010", shapeOf("4,4:RUR"));
        due.tells("decided by the second step", "0010", shapeOf("4,4:RDRR"));
        due.tells("the same from its tail and its head", "00100", shapeOf("4,4:RRDRR"));
        String[] views = {
            "RRURDR", "DDRDLD", "LLDLUL", "UULURU", "LLULDL", "UURULU", "RRDRUR", "DDLDRD",
            "LULDLL", "ULURUU", "RDRURR", "DRDLDD", "RURDRR", "URULUU", "LDLULL", "DLDRDD",
        };
        for (String view : views) {
            due.tells("the shape of " + view, "001030", shapeOf("4,4:" + view));
        }
    }

    // ---- promise 25

    private void isAlike() {
        document.under("Promise 25");
        document.says("Tells whether two paths have the same shape.", () -> {
            alike(true, "0,0:RRD", "9,9:UUL");
            alike(true, "0,0:RRD", "0,9:URR");
            alike(true, "0,0:RRDRR", "0,9:RRURR");
            alike(true, "4,4:", "9,9:");
            alike(true, "0,0:R", "9,9:U");
            alike(true, Look.snake(50), "9,9:LLLLLLLLLURRRRRRRRRULLLLLLLLLURRRRRRRRRULLLLLLLLL");
            alike(false, "0,0:RRD", "5,5:RUR");
            alike(false, "0,0:RR", "5,5:RRR");
            alike(false, "0,0:", "9,9:U");
            alike(false, "0,0:RRDRR", "0,5:RRDLL");
            alike(false, "0,0:RRDRR", "9,9:LLULD");
            LatticePaths x = Look.with("0,0:R", "9,9:U");
            edges.savesNothing("isAlike", x, () -> x.isAlike(0, 1) ? 1 : 0);
        });
        document.says("- `path`: the number of the one", () -> {
            edges.eachPath("isAlike of a path and itself", (x, path) -> x.isAlike(path, path) ? 1 : 0, 1, 1, 1, 1, 1);
            edges.eachPath("isAlike of a path and the second", (x, path) -> x.isAlike(path, 1) ? 1 : 0, 0, 1, 0, 0, 0);
        });
        document.says("- `other`: the number of the other one", () -> edges.eachPath("isAlike of the third and a path",
                (x, path) -> x.isAlike(2, path) ? 1 : 0, 0, 0, 1, 0, 0));
        document.says("Returns whether their shapes are the same.", () -> {
            alike(true, "0,0:RD", "9,9:LU");
            alike(false, "0,0:RD", "9,9:LL");
        });
        document.says("Throws `IndexOutOfBoundsException` if there is no such path", () -> {
            edges.noSuchPath("isAlike of the one", (x, path) -> x.isAlike(path, 0) ? 1 : 0);
            edges.noSuchPath("isAlike of the other", (x, path) -> x.isAlike(0, path) ? 1 : 0);
            edges.noSuchPath("isAlike of both", (x, path) -> x.isAlike(path, path) ? 1 : 0);
        });
    }

    private void alike(boolean want, String one, String other) {
        LatticePaths x = Look.with(one, other);
        due.holds(one + " is like " + other + ": " + want, x.isAlike(0, 1) == want);
        due.holds(other + " is like " + one + ": " + want, x.isAlike(1, 0) == want);
    }

    // ---- promise 26

    private void free() {
        document.under("Promise 26");
        document.says("Returns a number of the free sites.", () -> {
            LatticePaths x = Look.with(Edges.FIVE);
            due.answers("those that 20 sites leave", 80, x.free(0));
            edges.savesNothing("free", x, () -> x.free(2));
        });
        document.says("Free sites are in the same region if one can go from the one to the other one from neighbour"
                + " to neighbour over free sites only.", this::regions);
        document.says("- `what`: 0 the number of free sites, 1 the number of regions, 2 the number of sites of the"
                + " greatest region, 3 the number of regions that have a neighbour of the head of a path in them",
                this::freeNumbers);
        document.says("Returns the number.", () -> {
            frees(100, 1, 100, 0);
            frees(40, 1, 40, 1, Look.snake(60));
            frees(0, 0, 0, 0, Look.snake(60), REST);
            frees(1, 1, 1, 1, Look.snake(60), REST.substring(0, REST.length() - 1));
            LatticePaths x = Look.with("9,1:LLLLLLLLL");
            due.answers("the greatest of two regions", 80, x.free(2));
            due.answers("both regions at the head", 2, x.free(3));
            x.remove(0);
            Look.draw(x, Look.snake(60));
            due.answers("the greatest where only one is left", 40, x.free(2));
            due.answers("the one that is left at the head", 1, x.free(3));
        });
        document.says("Throws `IllegalArgumentException` if what is not 0 to 3", () -> {
            edges.throwsArgument("what", 0, 3, (x, what) -> x.free(what));
            edges.throwsArgument("what", 0, 3, (x, what) -> x.free(what), Look.snake(60), REST);
        });
    }

    private void frees(int sites, int regions, int greatest, int atHeads, String... paths) {
        LatticePaths x = Look.with(paths);
        String what = " of " + String.join(" ", paths);
        due.answers("free(0)" + what, sites, x.free(0));
        due.answers("free(1)" + what, regions, x.free(1));
        due.answers("free(2)" + what, greatest, x.free(2));
        due.answers("free(3)" + what, atHeads, x.free(3));
    }

    private void regions() {
        due.answers("corner to corner is no way", 2, Look.with("1,0:", "0,1:").free(1));
        due.answers("over the end of a row is no way", 2, Look.with("5,0:DDDDDDDDD").free(1));
        due.answers("over the last row is no way", 2, Look.with("0,5:RRRRRRRRR").free(1));
        due.answers("a way round at the left", 1, Look.with("1,5:RRRRRRRR").free(1));
        due.answers("a way round above", 1, Look.with("5,1:DDDDDDDD").free(1));
        due.answers("a way through a gap", 1, Look.with("0,5:RRR", "5,5:RRRR").free(1));
        due.answers("a hole in a ring", 2, Look.with("3,4:RRDDLLU").free(1));
        LatticePaths comb = Look.with("1,0:DDDDDDDD", "3,9:UUUUUUUU", "5,0:DDDDDDDD", "7,9:UUUUUUUU");
        due.answers("one long way", 1, comb.free(1));
        due.answers("all sites of it", 64, comb.free(2));
        LatticePaths shut = Look.with("1,0:DDDDDDDDD", "3,9:UUUUUUUUU", "5,0:DDDDDDDDD", "7,9:UUUUUUUUU");
        due.answers("five columns", 5, shut.free(1));
        due.answers("the widest of them", 20, shut.free(2));
    }

    private void freeNumbers() {
        frees(90, 2, 60, 2, "3,0:DDDDDDDDD");
        frees(97, 2, 96, 2, "0,1:RU");
        frees(96, 2, 95, 1, "0,1:RUR");
        frees(80, 3, 40, 3, "0,3:RRRRRRRRR", "0,5:RRRRRRRRR");
        frees(99, 1, 99, 1, "4,4:");
        frees(98, 1, 98, 1, "4,4:", "4,5:");
        frees(96, 1, 96, 0, "0,1:RUL");
        edges.takes("what", 0, 3, (x, what) -> x.free(what), "4,4:");
    }
}
