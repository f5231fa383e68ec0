/** The sentences of promises 6 to 10. */
final class MovesSentences {
    private static final int UP = 0;
    private static final int DOWN = 2;

    private final Due due;
    private final Sentences document;
    private final Edges edges;

    MovesSentences(Due due, Sentences document) {
        this.due = due;
        this.document = document;
        this.edges = new Edges(due);
    }

    void test() {
        turn();
        reverse();
        join();
        split();
        remove();
    }

    // ---- promise 6

    private void turn() {
        document.under("Promise 6");
        document.says("Turns a path about one of its sites, if that is not refused (a turn about its head moves"
                + " nothing, but is made).", this::turnMoves);
        document.says("Undoable, also if it is refused.", this::turnIsUndoable);
        document.says("- `path`: its number", () -> {
            edges.eachPath("turn", (x, path) -> x.turn(path, 1, 1), 0, 2, 2, 0, 1);
            edges.eachPathThen("the head then", (x, path) -> x.turn(path, 1, 1),
                    (x, path) -> x.place(path, x.path(path, 0) - 1), 1, 33, 36, 73, 79);
        });
        document.says("- `place`: the number of the site in the path", this::turnPlaces);
        document.says("- `quarters`: 1 to 3", () ->
                edges.takes("the quarters", 1, 3, (x, quarters) -> x.turn(0, 0, quarters), "4,4:RR"));
        document.says("Returns 0 if it is turned; otherwise the reason, 1 to 3.", () -> {
            LatticePaths x = Look.with("0,4:RR", "0,5:");
            due.answers("off the lattice", 1, x.turn(0, 0, 2));
            due.answers("onto itself", 2, x.turn(0, 1, 2));
            due.answers("onto another", 3, x.turn(0, 0, 1));
            due.answers("a free way", 0, x.turn(0, 0, 3));
        });
        document.says("Throws `IndexOutOfBoundsException` if there is no such path, or it has no such site", () -> {
            edges.noSuchPath("turn", (x, path) -> x.turn(path, 0, 1));
            edges.throwsIndex("the place", 0, 2, (x, place) -> x.turn(0, place, 1), "4,4:RR", "0,0:RRRR");
            edges.throwsIndex("the place", 0, 0, (x, place) -> x.turn(0, place, 1), "4,4:");
            edges.throwsIndex("the place", 0, 59, (x, place) -> x.turn(0, place, 1), Look.snake(60));
        });
        document.says("Throws `IllegalArgumentException` if quarters is not 1 to 3", () -> {
            edges.throwsArgument("the quarters", 1, 3, (x, quarters) -> x.turn(0, 0, quarters), "4,4:RR");
            edges.throwsArgument("the quarters of a head", 1, 3, (x, quarters) -> x.turn(0, 2, quarters), "4,4:RR");
        });
    }

    private void turnMoves() {
        LatticePaths x = Look.with("4,4:RRD", "2,4:");
        x.turn(0, 1, 1);
        due.tells("a turn that is made", "2 5 0 0 1 3 0 error 0 [44 45 55 54] [42]", Look.at(x));
        x.turn(0, 0, 2);
        due.tells("another one", "2 5 0 0 2 4 0 error 0 [44 43 33 34] [42]", Look.at(x));
        x.turn(0, 1, 3);
        due.tells("one that is refused", "2 5 0 1 2 5 0 error 0 [44 43 33 34] [42]", Look.at(x));
        x.turn(0, 3, 1);
        due.tells("one about the head", "2 5 0 1 3 6 0 error 0 [44 43 33 34] [42]", Look.at(x));
        due.tells("what stands on the sites", Look.sitesOfPaths(x), Look.marks(x));
        for (int quarters = 1; quarters <= 3; quarters++) {
            due.answers("a turn of one site in a corner", 0, Look.with("0,0:").turn(0, 0, quarters));
            due.answers("a turn of a head in a corner", 0, Look.with("0,1:U", "1,0:").turn(0, 1, quarters));
        }
    }

    private void turnIsUndoable() {
        LatticePaths x = Look.with("0,4:RR", "0,5:");
        edges.undoable("a turn that is made", x, () -> x.turn(0, 0, 3));
        edges.undoable("a turn that is refused for 1", x, () -> x.turn(0, 0, 2));
        edges.undoable("a turn that is refused for 2", x, () -> x.turn(0, 1, 2));
        edges.undoable("a turn that is refused for 3", x, () -> x.turn(0, 0, 1));
        edges.undoable("a turn about the head", x, () -> x.turn(0, 2, 1));
    }

    private void turnPlaces() {
        edges.takes("the place", 0, 3, (x, place) -> x.turn(0, place, 1), "4,4:RRR");
        edges.takes("the place", 0, 59, (x, place) -> x.turn(0, place, 1), Look.snake(60));
        String[] sites = {"44 54 64 74", "44 45 55 65", "44 45 46 56", "44 45 46 47"};
        for (int place = 0; place < 4; place++) {
            LatticePaths x = Look.with("4,4:RRR");
            x.turn(0, place, 1);
            due.tells("the sites of a turn about " + place, sites[place], Look.sites(x, 0));
        }
    }

    // ---- promise 7

    private void reverse() {
        document.under("Promise 7");
        document.says("Reverses a path: its head becomes its tail.", () -> {
            LatticePaths x = Look.with("4,4:RDD", "0,0:");
            x.reverse(0);
            due.tells("all", "2 5 0 0 0 3 0 error 0 [65 55 45 44] [0]", Look.at(x));
            due.tells("what stands on the sites", Look.sitesOfPaths(x), Look.marks(x));
            x.step(0, UP);
            due.tells("a step from the new head", "65 55 45 44 34", Look.sites(x, 0));
            x.reverse(1);
            due.tells("one site", "0", Look.sites(x, 1));
        });
        document.says("Undoable.", () -> {
            LatticePaths x = Look.with("4,4:RDD", "0,0:");
            edges.undoable("reverse", x, () -> x.reverse(0));
            edges.undoable("reverse of one site", x, () -> x.reverse(1));
        });
        document.says("- `path`: its number", () -> edges.eachPathThen("the tail then", (x, path) -> x.reverse(path),
                (x, path) -> x.place(path, 0), 1, 33, 36, 42, 79));
        document.says("Returns the number 10 * row + column of its new head.", () -> {
            edges.eachPath("reverse", (x, path) -> x.reverse(path), 0, 22, 26, 51, 74);
            due.answers("one site", 70, Look.with("0,7:").reverse(0));
            LatticePaths full = Look.with(Look.snake(60));
            due.answers("60 sites", 0, full.reverse(0));
            due.answers("60 sites once more", 50, full.reverse(0));
        });
        document.says("Throws `IndexOutOfBoundsException` if there is no such path",
                () -> edges.noSuchPath("reverse", (x, path) -> x.reverse(path)));
    }

    // ---- promise 8

    private void join() {
        document.under("Promise 8");
        document.says("Joins two paths at their heads: the sites of the other path follow the head of the one, from"
                + " the head of the other one to its tail.", this::joinSites);
        document.says("The other path goes.", this::joinGoes);
        document.says("Undoable.", () -> {
            LatticePaths x = Look.with("0,0:R", "3,0:L", "9,9:", "9,0:");
            edges.undoable("join", x, () -> x.join(0, 1));
            edges.undoable("join the other way", x, () -> x.join(1, 0));
        });
        document.says("- `path`: the number of the one", () -> {
            LatticePaths x = Look.with("0,0:", "9,9:", "1,0:R");
            x.reverse(2);
            x.join(2, 0);
            due.tells("the one is the later path", "2 4 0 0 0 5 0 error 0 [99] [2 1 0]", Look.at(x));
        });
        document.says("- `other`: the number of the other one", () -> {
            LatticePaths x = Look.with("0,0:", "9,9:", "1,0:R");
            x.reverse(2);
            x.join(0, 2);
            due.tells("the other is the later path", "2 4 0 0 0 5 0 error 0 [0 1 2] [99]", Look.at(x));
        });
        document.says("Returns the number of sites that the joined path has.", () -> {
            due.answers("two single sites", 2, Look.with("0,0:", "0,1:").join(0, 1));
            due.answers("one and three", 4, Look.with("0,0:", "1,2:UU").join(0, 1));
            due.answers("30 and 30", 60, Look.with(Look.snake(30), belowThirty(30)).join(0, 1));
            due.answers("59 and 1", 60, Look.with(Look.snake(59), "1,6:").join(1, 0));
        });
        document.says("Throws `IndexOutOfBoundsException` if there is no such path", () -> {
            edges.noSuchPath("join of the one", (x, path) -> x.join(path, 0));
            edges.noSuchPath("join of the other", (x, path) -> x.join(0, path));
            edges.noSuchPath("join of both", (x, path) -> x.join(path, path));
        });
        document.says("Throws `IllegalArgumentException` if both are the same", () -> {
            for (int path = 0; path < 5; path++) {
                int same = path;
                LatticePaths x = Look.with(Edges.FIVE);
                due.throwsArgument(x, "join of " + path + " with itself", () -> x.join(same, same));
            }
            LatticePaths one = Look.with("4,4:");
            due.throwsArgument(one, "join of one site with itself", () -> one.join(0, 0));
            LatticePaths ring = Look.with(Look.ring());
            due.throwsArgument(ring, "join of 60 sites with themselves", () -> ring.join(0, 0));
        });
        document.says("Throws `IllegalStateException` if their heads are not neighbours, or they have more than 60"
                + " sites together", this::joinWhereItCannot);
    }

    private void joinSites() {
        LatticePaths x = Look.with("0,0:RD", "3,3:ULU");
        x.join(0, 1);
        due.tells("the one before the other", "0 1 11 12 22 23 33", Look.sites(x, 0));
        due.tells("what stands on the sites", Look.sitesOfPaths(x), Look.marks(x));
        LatticePaths y = Look.with("0,0:RD", "3,3:ULU");
        y.join(1, 0);
        due.tells("the other before the one", "33 23 22 12 11 1 0", Look.sites(y, 0));
        String[] around = {"4,3:", "5,4:", "4,5:", "3,4:"};
        int[] heads = {34, 45, 54, 43};
        for (int direction = 0; direction < 4; direction++) {
            LatticePaths z = Look.with("4,4:", around[direction]);
            z.join(0, 1);
            due.tells("in the direction " + direction, "44 " + heads[direction], Look.sites(z, 0));
        }
    }

    private void joinGoes() {
        LatticePaths x = Look.with("0,0:", "9,9:", "1,0:", "5,5:", "7,7:");
        x.join(0, 2);
        due.tells("the later ones' numbers", "4 5 0 0 0 6 0 error 0 [0 1] [99] [55] [77]", Look.at(x));
        LatticePaths y = Look.with("0,0:", "9,9:", "1,0:", "5,5:", "7,7:");
        y.join(2, 0);
        due.tells("the one's own number", "4 5 0 0 0 6 0 error 0 [99] [1 0] [55] [77]", Look.at(y));
        due.tells("what stands on the sites", Look.sitesOfPaths(y), Look.marks(y));
        due.answers("a fifth path again", 4, y.start(0, 9));
    }

    /** A path of 30 sites and more that ends below the head of Look.snake(30). */
    private static String belowThirty(int sites) {
        return sites == 30 ? "0,5:RRRRRRRRRULLLLLLLLLURRRRRRRRR" : "0,6:URRRRRRRRRULLLLLLLLLURRRRRRRRR";
    }

    private void joinWhereItCannot() {
        notJoined("a head and a tail", "0,0:R", "2,0:R");
        notJoined("two tails", "4,4:L", "5,4:R");
        notJoined("corner to corner", "0,0:", "1,1:");
        notJoined("a site between", "0,0:", "2,0:");
        notJoined("the end of a row and the start of the next one", "9,3:", "0,4:");
        notJoined("the first and the last site of a row", "0,4:", "9,4:");
        notJoined("the first and the last site of a column", "4,0:", "4,9:");
        notJoined("31 and 30 sites", Look.snake(30), belowThirty(31));
        notJoined("60 sites and one", Look.snake(60), "0,6:");
        notJoined("60 sites and one far away", Look.snake(60), "9,9:");
    }

    private void notJoined(String what, String one, String other) {
        LatticePaths x = Look.with(one, other);
        due.throwsState(x, "join, " + what, () -> x.join(0, 1));
        due.throwsState(x, "join the other way, " + what, () -> x.join(1, 0));
    }

    // ---- promise 9

    private void split() {
        document.under("Promise 9");
        document.says("Splits a path: the sites behind one of its sites become a new path, in their order.", () -> {
            LatticePaths x = Look.with("4,4:RRDD", "9,9:");
            x.split(0, 1);
            due.tells("all", "3 6 0 0 0 3 0 error 0 [44 45] [99] [46 56 66]", Look.at(x));
            due.tells("what stands on the sites", Look.sitesOfPaths(x), Look.marks(x));
            x.step(2, DOWN);
            due.tells("a step of the new path", "46 56 66 76", Look.sites(x, 2));
        });
        document.says("Undoable.", () -> {
            LatticePaths x = Look.with("4,4:RRDD", "9,9:");
            edges.undoable("split", x, () -> x.split(0, 0));
            edges.undoable("split of the head alone", x, () -> x.split(0, 3));
        });
        document.says("- `path`: its number", () -> {
            LatticePaths x = Look.with("0,0:R", "3,0:R", "6,0:R");
            due.answers("split of the last one", 3, x.split(2, 0));
            due.answers("split of the first one", 4, x.split(0, 0));
            due.tells("all", "5 6 0 0 0 5 0 error 0 [0] [3 4] [6] [7] [1]", Look.at(x));
        });
        document.says("- `place`: the number of the site that becomes its head", () -> {
            edges.takes("the place", 0, 3, (x, place) -> x.split(0, place), "4,4:RRDD");
            edges.takes("the place", 0, 58, (x, place) -> x.split(0, place), Look.snake(60));
            for (int place = 0; place <= 58; place++) {
                LatticePaths x = Look.with(Look.snake(60));
                int head = x.place(0, place);
                x.split(0, place);
                due.answers("the sites that are left", place + 1, x.path(0, 0));
                due.answers("the last one of them", head, x.place(0, place));
                due.answers("the sites of the new path", 59 - place, x.path(1, 0));
            }
        });
        document.says("Returns the number of the new path.", () -> {
            LatticePaths x = Look.with("0,0:RRRRRR");
            for (int number = 1; number <= 4; number++) {
                due.answers("split", number, x.split(number - 1, 0));
            }
        });
        document.says("Throws `IndexOutOfBoundsException` if there is no such path, or it has no such site, or the"
                + " site is its head already", () -> {
            edges.noSuchPath("split", (x, path) -> x.split(path, 0));
            // the greatest place that is left is the one before the head
            edges.throwsIndex("the place", 0, 3, (x, place) -> x.split(0, place), "4,4:RRDD");
            edges.throwsIndex("the place behind the head", 0, 4, (x, place) -> x.split(0, place), "4,4:RRDD");
            edges.throwsIndex("the place of 60 sites", 0, 58, (x, place) -> x.split(0, place), Look.snake(60));
            LatticePaths one = Look.with("4,4:");
            due.throwsIndex(one, "split of one site", () -> one.split(0, 0));
        });
        document.says("Throws `IllegalStateException` if there are 5 paths", () -> {
            LatticePaths x = Look.with(Edges.FIVE);
            for (int path = 0; path < 5; path++) {
                int some = path;
                due.throwsState(x, "split of path " + path, () -> x.split(some, 0));
            }
            x.remove(0);
            due.answers("split of four", 4, x.split(0, 0));
        });
    }

    // ---- promise 10

    private void remove() {
        document.under("Promise 10");
        document.says("Removes a path.", () -> {
            LatticePaths x = Look.with(Edges.FIVE);
            x.remove(2);
            due.tells("all", "4 16 0 0 0 6 0 error 0 [0 1] [22 23 33] [51 61 62 52 42] [74 75 76 77 78 79]",
                    Look.at(x));
            due.tells("what stands on the sites", Look.sitesOfPaths(x), Look.marks(x));
            LatticePaths full = Look.with(Look.snake(60));
            full.remove(0);
            due.answers("the free sites behind 60", 100, full.free(0));
        });
        document.says("Undoable.", () -> {
            LatticePaths x = Look.with("0,0:R", "9,9:", "5,5:URDDL");
            edges.undoable("remove of the first", x, () -> x.remove(0));
            edges.undoable("remove of the one between", x, () -> x.remove(1));
            edges.undoable("remove of the last", x, () -> x.remove(2));
        });
        document.says("- `path`: its number", () ->
                edges.eachPathThen("the sites that are left", (x, path) -> x.remove(path), (x, path) -> x.count(1),
                        18, 17, 16, 15, 14));
        document.says("Returns the number of paths that are left.", () -> {
            LatticePaths x = Look.with(Edges.FIVE);
            for (int left = 4; left >= 0; left--) {
                due.answers("remove", left, x.remove(left / 2));
            }
        });
        document.says("Throws `IndexOutOfBoundsException` if there is no such path",
                () -> edges.noSuchPath("remove", (x, path) -> x.remove(path)));
    }
}
