import java.lang.reflect.Method;
import java.lang.reflect.Modifier;
import java.util.Arrays;
import java.util.List;

/** The sentences of "What it is" and of the terms up to "Path text". */
final class TermsSentences {
    private static final int UP = 0;
    private static final int RIGHT = 1;
    private static final int DOWN = 2;
    private static final int LEFT = 3;

    private final Due due;
    private final Sentences document;

    TermsSentences(Due due, Sentences document) {
        this.due = due;
        this.document = document;
    }

    void test() {
        whatItIs();
        lattice();
        paths();
        refusals();
        pathText();
    }

    // ---- what it is

    private void whatItIs() {
        document.under("What it is");
        document.says("Paths on a lattice that never cross themselves or one another: steps that are refused, heads"
                + " that are trapped, paths that slither, turn about one of their sites, are reversed, joined at"
                + " their heads and split, sizes and spans, corners and contacts, ways to go on, regions of free"
                + " sites, shapes that are the same when they are turned or mirrored, turns that are possible, and"
                + " paths that are read from texts.", this::neverCross);
        document.says("An object is used for at most 512 calls after it has been made; what later calls answer is"
                + " free.", this::the512thCall);
        document.under("Terms");
        document.says("All numbers are integers, unless a float or a double is mentioned.", this::kindsOfNumbers);
    }

    private void neverCross() {
        LatticePaths x = Look.with(Edges.FIVE);
        int seed = 1;
        for (int call = 0; call < 300; call++) {
            seed = (seed * 75 + 74) % 65537;
            int path = seed % 5;
            if (seed / 5 % 3 == 0) {
                x.step(path, seed / 16 % 4);
            } else if (seed / 5 % 3 == 1) {
                x.slither(path, seed / 16 % 4);
            } else {
                x.turn(path, 0, 1 + seed / 16 % 3);
            }
            due.tells("what stands on the sites", Look.sitesOfPaths(x), Look.marks(x));
            due.answers("the sites of all paths", 100 - x.free(0), x.count(1));
        }
        due.holds("some steps were made, and some refused", x.count(2) > 20 && x.count(3) > 20);
    }

    private void the512thCall() {
        LatticePaths x = new LatticePaths();
        x.start(0, 0);
        for (int call = 2; call <= 510; call++) {
            due.answers("call " + call, 0, x.slither(0, call % 2 == 0 ? RIGHT : LEFT));
        }
        due.answers("call 511", 1, x.place(0, 0));
        due.answers("call 512", 6, x.count(5));
    }

    private void kindsOfNumbers() {
        for (Method method : LatticePaths.class.getDeclaredMethods()) {
            if (Modifier.isPublic(method.getModifiers())) {
                String name = method.getName();
                String want = name.equals("isAlike") ? "boolean" : name.equals("spread") ? "double"
                        : name.equals("share") ? "float" : "int";
                due.tells("the kind of " + name, want, method.getReturnType().getName());
                due.holds("the arguments of " + name + " are integers",
                        Arrays.stream(method.getParameterTypes()).allMatch(type -> type == int.class));
            }
        }
    }

    // ---- lattice

    private void lattice() {
        document.under("Lattice");
        document.says("The lattice has 10 columns and 10 rows of sites, both numbered from 0.", this::tenByTen);
        document.says("A site is told as (column, row), or as the number 10 * row + column.", this::numbersOfSites);
        document.says("The directions are 0 up (row - 1), 1 right (column + 1), 2 down (row + 1) and 3 left (column -"
                + " 1).", this::directions);
        document.says("The neighbours of a site are the sites that are one step away from it in a direction, as far"
                + " as they are on the lattice.", this::neighbours);
        document.says("Sets of directions are bit masks: bit d stands for the direction d.", this::sets);
    }

    private void tenByTen() {
        LatticePaths x = new LatticePaths();
        for (int site = 0; site < 100; site++) {
            due.answers("site(" + site % 10 + ", " + site / 10 + ", 0)", -1, x.site(site % 10, site / 10, 0));
        }
        due.answers("all sites", 100, x.free(0));
        due.throwsIndex(x, "column -1", () -> x.site(-1, 0, 0));
        due.throwsIndex(x, "column 10", () -> x.site(10, 9, 0));
        due.throwsIndex(x, "row -1", () -> x.site(0, -1, 0));
        due.throwsIndex(x, "row 10", () -> x.site(9, 10, 0));
        for (int site : new int[] {0, 9, 90, 99}) {
            x.start(site % 10, site / 10);
            due.answers("the corner", site, x.place(x.count(0) - 1, 0));
        }
    }

    private void numbersOfSites() {
        LatticePaths x = Look.with("7,3:", "3,7:", "9,0:", "0,9:");
        int[] numbers = {37, 73, 9, 90};
        for (int path = 0; path < 4; path++) {
            due.answers("the number of path " + path, numbers[path], x.place(path, 0));
            due.answers("the path at that column and row", path, x.site(numbers[path] % 10, numbers[path] / 10, 0));
        }
    }

    private void directions() {
        int[] heads = {34, 45, 54, 43};
        for (int direction = 0; direction < 4; direction++) {
            LatticePaths x = Look.with("4,4:");
            x.step(0, direction);
            due.answers("the head after a step in the direction " + direction, heads[direction], x.place(0, 1));
        }
    }

    private void neighbours() {
        LatticePaths x = new LatticePaths();
        int[] sites = {0, 5, 9, 50, 55, 59, 90, 95, 99};
        int[] sets = {6, 14, 12, 7, 15, 13, 3, 11, 9};
        for (int i = 0; i < sites.length; i++) {
            due.answers("the neighbours of " + sites[i], sets[i], x.site(sites[i] % 10, sites[i] / 10, 2));
        }
        LatticePaths ends = Look.with("9,3:", "0,4:", "0,0:", "9,9:", "8,2:");
        due.answers("the end of a row and the start of the next one", 0, ends.touching(0, 1));
        due.answers("the first and the last site", 0, ends.touching(2, 3));
        due.answers("corner to corner", 0, ends.touching(0, 4));
        due.throwsState(ends, "join over the end of a row", () -> ends.join(0, 1));
        due.answers("a step over the end of a row", 1, ends.step(0, RIGHT));
        due.answers("a step over the start of a row", 1, ends.step(1, LEFT));
    }

    private void sets() {
        String[] round = {"4,3:", "5,4:", "4,5:", "3,4:"};
        for (int open = 0; open < 4; open++) {
            LatticePaths x = Look.with("4,4:");
            for (int direction = 0; direction < 4; direction++) {
                if (direction != open) {
                    Look.draw(x, round[direction]);
                }
            }
            due.answers("only the direction " + open, 1 << open, x.site(4, 4, 2));
            due.answers("only the direction " + open + " from the head", 1 << open, x.path(0, 6));
        }
        due.answers("no direction", 0, Look.with("4,4:", "4,3:", "5,4:", "4,5:", "3,4:").site(4, 4, 2));
    }

    // ---- paths

    private void paths() {
        document.under("Paths");
        document.says("There are at most 5 paths, numbered from 0 in the order in which they came; when one goes, the"
                + " numbers of the later ones become less by 1.", this::fivePaths);
        document.says("A path has 1 to 60 sites, numbered from 0, each of which is a neighbour of the one before.",
                this::oneToSixtySites);
        document.says("Its first site is its tail, its last site is its head.", this::tailAndHead);
        document.says("No site is in two paths, or twice in one.", this::noSiteTwice);
        document.says("A site that is in no path is free.", this::freeSites);
        document.says("The steps of a path are the directions from each site to the next one.", this::stepsOfPaths);
    }

    private void fivePaths() {
        LatticePaths x = Look.with(Edges.FIVE);
        due.throwsState(x, "a sixth start", () -> x.start(9, 0));
        due.throwsState(x, "a split into a sixth path", () -> x.split(0, 0));
        Look.type(x, "9,0:");
        due.throwsState(x, "a sixth path that is drawn", () -> x.draw());
        x.remove(1);
        due.tells("the later ones' numbers", "[0 1] [26 27 37 36] [51 61 62 52 42] [74 75 76 77 78 79]", paths(x));
        due.answers("the next path's number", 4, x.draw());
        x.remove(4);
        x.remove(0);
        due.tells("the numbers then", "[26 27 37 36] [51 61 62 52 42] [74 75 76 77 78 79]", paths(x));
        LatticePaths joined = Look.with("0,0:", "9,9:", "1,0:", "5,5:", "7,7:");
        joined.join(0, 2);
        due.tells("the numbers behind a path that was joined", "[0 1] [99] [55] [77]", paths(joined));
    }

    private static String paths(LatticePaths x) {
        String told = Look.at(x);
        return told.substring(told.indexOf('['));
    }

    private void oneToSixtySites() {
        LatticePaths one = Look.with("4,4:");
        due.throwsState(one, "back of one site", () -> one.back(0));
        due.answers("the least number of sites", 1, one.path(0, 0));
        LatticePaths x = Look.with(Look.snake(59));
        due.answers("the step to the 60th site", 0, x.step(0, LEFT));
        due.answers("the step to a 61st site", 4, x.step(0, DOWN));
        due.answers("the most sites", 60, x.path(0, 0));
        for (int place = 1; place < 60; place++) {
            int site = x.place(0, place - 1);
            int next = x.place(0, place);
            int apart = Math.abs(site / 10 - next / 10) + Math.abs(site % 10 - next % 10);
            due.answers("the steps from " + site + " to " + next, 1, apart);
        }
        due.answers("site 60", -1, x.place(0, 60));
        Look.type(one, Look.snake(61));
        due.throwsState(one, "61 sites that are drawn", () -> one.draw());
        LatticePaths two = Look.with(Look.snake(60), "0,6:");
        due.throwsState(two, "join to 61 sites", () -> two.join(0, 1));
    }

    private void tailAndHead() {
        LatticePaths x = Look.with("4,4:RRD", "0,0:");
        due.answers("the first site", 44, x.place(0, 0));
        due.answers("the last site", 56, x.place(0, 3));
        x.step(0, DOWN);
        due.answers("a step goes from the last site", 66, x.place(0, 4));
        x.slither(0, DOWN);
        due.answers("the first site goes when it slithers", 45, x.place(0, 0));
        due.answers("tail and head of one site", 0, x.path(1, 5));
    }

    private void noSiteTwice() {
        LatticePaths x = Look.with("4,4:RD", "4,5:", "6,5:");
        due.throwsState(x, "start at a tail", () -> x.start(4, 4));
        due.throwsState(x, "start at a site between", () -> x.start(5, 4));
        due.throwsState(x, "start at a head", () -> x.start(5, 5));
        due.answers("a step onto itself", 2, x.step(0, UP));
        due.answers("a step onto another", 3, x.step(0, LEFT));
        due.answers("a slither onto itself", 2, x.slither(0, UP));
        due.answers("a slither onto another", 3, x.slither(0, RIGHT));
        due.answers("a turn onto itself", 2, x.turn(0, 1, 1));
        due.answers("a turn onto another", 3, x.turn(0, 0, 1));
        Look.type(x, "4,3:D");
        due.throwsState(x, "a path that is drawn over another", () -> x.draw());
        Look.type(x, "0,0:RL");
        due.throwsState(x, "a path that is drawn over itself", () -> x.draw());
        due.tells("what stands on the sites", Look.sitesOfPaths(x), Look.marks(x));
    }

    private void freeSites() {
        LatticePaths x = Look.with("4,4:RRR", "0,0:R");
        due.answers("the free sites", 94, x.free(0));
        x.back(0);
        due.answers("the path where the head was", -1, x.site(7, 4, 0));
        due.answers("the number where the head was", -1, x.site(7, 4, 1));
        x.slither(0, DOWN);
        due.answers("the path where the tail was", -1, x.site(4, 4, 0));
        x.turn(0, 1, 3);
        due.answers("the path from where it was turned", -1, x.site(6, 5, 0));
        x.remove(1);
        due.answers("the path where one was removed", -1, x.site(1, 0, 0));
        due.tells("what stands on the sites", Look.sitesOfPaths(x), Look.marks(x));
        due.answers("the free sites then", 97, x.free(0));
        due.answers("a start where one was removed", 1, x.start(1, 0));
    }

    private void stepsOfPaths() {
        LatticePaths x = Look.with("4,4:");
        for (int direction : new int[] {UP, LEFT, DOWN, DOWN, RIGHT}) {
            x.step(0, direction);
        }
        due.answers("the steps in letters", 9, x.write(0));
        x.remove(0);
        due.answers("the path of these letters", 0, x.draw());
        due.tells("its sites", "44 34 33 43 53 54", Look.sites(x, 0));
        due.answers("its steps that differ from the step before", 3, x.path(0, 1));
    }

    // ---- refusals

    private void refusals() {
        document.under("Refusals");
        document.says("A step of a head in a direction is refused for the first of these reasons that applies: 1"
                + " there is no such site on the lattice; 2 the site is in this path; 3 the site is in another path;"
                + " 4 the path has 60 sites.", this::refusedSteps);
        document.says("When a path turns about its site k by a number of quarters (1 to 3), each of its sites behind"
                + " k is moved clockwise about the site k by so many right angles (clockwise: from up to right, to"
                + " down, to left).", this::clockwise);
        document.says("This is refused for the first of these reasons that applies to any of these sites (1 for all"
                + " of them first, then 2, then 3): 1 it would not be on the lattice; 2 it would be on one of the"
                + " sites 0 to k of this path; 3 it would be on a site of another path.", this::refusedTurns);
    }

    private void refusedSteps() {
        int[] corners = {0, 9, 99, 90};
        for (int corner = 0; corner < 4; corner++) {
            LatticePaths x = new LatticePaths();
            x.start(corners[corner] % 10, corners[corner] / 10);
            due.answers("the first edge of a corner", 1, x.step(0, corner));
            due.answers("the second edge of a corner", 1, x.step(0, (corner + 3) % 4));
        }
        LatticePaths x = Look.with("4,4:RDL", "3,5:");
        due.answers("onto the own tail", 2, x.step(0, UP));
        due.answers("onto the own site before the head", 2, x.step(0, RIGHT));
        due.answers("onto another path", 3, x.step(0, LEFT));
        due.answers("onto a free site", 0, x.step(0, DOWN));
        LatticePaths full = Look.with(Look.snake(60), "0,6:");
        due.answers("1 before 4", 1, full.step(0, LEFT));
        due.answers("2 before 4", 2, full.step(0, UP));
        due.answers("3 before 4", 3, full.step(0, DOWN));
        full.remove(1);
        due.answers("4", 4, full.step(0, DOWN));
    }

    private void clockwise() {
        String[] sites = {"55 65 75 74", "55 54 53 43", "55 45 35 36"};
        for (int quarters = 1; quarters <= 3; quarters++) {
            LatticePaths x = Look.with("5,5:RRD");
            due.answers("the turn about the tail by " + quarters, 0, x.turn(0, 0, quarters));
            due.tells("the sites", sites[quarters - 1], Look.sites(x, 0));
        }
        LatticePaths up = Look.with("5,5:U");
        for (int head : new int[] {56, 65, 54, 45}) {
            up.turn(0, 0, 1);
            due.answers("from up to right, to down, to left, to up", head, up.place(0, 1));
        }
        LatticePaths behind = Look.with("5,5:RRD");
        behind.turn(0, 1, 1);
        due.tells("only the sites behind it move", "55 56 66 65", Look.sites(behind, 0));
        LatticePaths onto = Look.with("5,5:RDLL");
        due.answers("a turn onto sites that move too", 0, onto.turn(0, 0, 1));
        due.tells("the sites", "55 65 64 54 44", Look.sites(onto, 0));
    }

    private void refusedTurns() {
        refusedTurn(1, 0, 2, "0,5:R");
        refusedTurn(1, 0, 2, "0,5:RR");
        refusedTurn(1, 0, 2, "0,5:RDL");
        refusedTurn(2, 1, 2, "4,4:RR");
        refusedTurn(2, 1, 3, "4,4:RU");
        refusedTurn(3, 0, 2, "4,4:R", "3,4:");
        refusedTurn(3, 0, 2, "4,4:RR", "2,4:");
        // more than one reason: the first site that is moved has the later reason, or the earlier one
        refusedTurn(1, 1, 2, "0,5:RRRR");
        refusedTurn(1, 1, 2, "0,4:DRDL");
        refusedTurn(1, 0, 2, "1,1:RRR", "0,1:");
        refusedTurn(1, 0, 2, "0,5:RDL", "0,4:");
        refusedTurn(2, 2, 2, "3,5:RURU", "3,4:");
        refusedTurn(2, 3, 2, "3,4:DRURD", "3,3:");
        refusedTurn(1, 3, 2, "1,4:DRURDRR", "1,3:");
        refusedTurn(0, 0, 1, "0,5:R");
    }

    private void refusedTurn(int reason, int place, int quarters, String... paths) {
        LatticePaths x = Look.with(paths);
        String what = "the turn of " + Arrays.toString(paths) + " about " + place + " by " + quarters;
        String before = Look.sites(x, 0);
        due.answers("if it turned, " + what, reason, x.ifTurned(0, place, quarters));
        due.answers(what, reason, x.turn(0, place, quarters));
        due.holds("the sites are the same if it is refused, " + what, before.equals(Look.sites(x, 0)) == (reason > 0));
    }

    // ---- path text

    private void pathText() {
        document.under("Path text");
        document.says("The buffer holds at most 70 characters.", this::seventyCharacters);
        document.says("It is empty at first.", this::emptyBuffer);
        document.says("A path text is a digit (the column of the tail), \",\", a digit (its row), \":\", and then any"
                + " number (also none) of the letters \"U\", \"R\", \"D\" and \"L\" for the steps up, right, down and"
                + " left.", this::pathTexts);
        document.says("The first error of the buffer is the index of the first character that no path text can have"
                + " after the characters before it (whatever is on the lattice).", this::firstErrors);
    }

    private void seventyCharacters() {
        LatticePaths x = new LatticePaths();
        for (int length = 1; length <= 70; length++) {
            due.answers("append", length, x.append('U'));
        }
        due.throwsState(x, "append of a 71st", () -> x.append('U'));
        due.answers("the length of the buffer", 70, x.count(6));
        due.answers("clearBuffer", 70, x.clearBuffer());
        due.answers("append afterwards", 1, x.append('U'));
    }

    private void emptyBuffer() {
        LatticePaths x = new LatticePaths();
        due.answers("its length", 0, x.count(6));
        due.answers("its first error", 0, x.firstError());
        due.throwsArgument(x, "draw", () -> x.draw());
        due.answers("clearBuffer", 0, x.clearBuffer());
        due.answers("the first append", 1, x.append('0'));
    }

    private void pathTexts() {
        for (int digit = 0; digit <= 9; digit++) {
            due.answers("the column " + digit, 40 + digit, Look.with(digit + ",4:").place(0, 0));
            due.answers("the row " + digit, 10 * digit + 4, Look.with("4," + digit + ":").place(0, 0));
        }
        due.tells("no letter", "72", Look.sites(Look.with("2,7:"), 0));
        due.tells("U", "72 62", Look.sites(Look.with("2,7:U"), 0));
        due.tells("R", "72 73", Look.sites(Look.with("2,7:R"), 0));
        due.tells("D", "72 82", Look.sites(Look.with("2,7:D"), 0));
        due.tells("L", "72 71", Look.sites(Look.with("2,7:L"), 0));
        due.tells("each letter", "72 62 63 64 74 84 83", Look.sites(Look.with("2,7:URRDDL"), 0));
        String[] others = {
            "", "2", "2,", "2,7", ",7:", "2:7", "2,7;", "2,7:u", "2,7:0", "27:", "a,7:", "2,a:", "2,7:U:",
        };
        for (String text : others) {
            LatticePaths x = new LatticePaths();
            Look.type(x, text);
            due.throwsArgument(x, "draw of '" + text + "'", () -> x.draw());
        }
    }

    private void firstErrors() {
        String[] before = {"", "4", "4,", "4,4", "4,4:", "4,4:U", "4,4:" + "UD".repeat(32)};
        String[] right = {"0123456789", ",", "0123456789", ":", "URDL", "URDL", "URDL"};
        for (int i = 0; i < before.length; i++) {
            for (char code = 33; code <= 126; code++) {
                LatticePaths x = Look.with("4,4:U");
                Look.type(x, before[i] + code);
                int length = before[i].length();
                int want = right[i].indexOf(code) >= 0 ? length + 1 : length;
                due.answers("the first error of '" + before[i] + code + "'", want, x.firstError());
            }
        }
        LatticePaths x = Look.with(Edges.FIVE);
        for (String text : List.of("0,0:", "0,0:UUU", "9,9:RL", "4,4:" + "U".repeat(66))) {
            Look.type(x, text);
            due.answers("the first error, whatever is on the lattice", text.length(), x.firstError());
        }
        Look.type(x, "x,xU4");
        due.answers("the first one of many", 0, x.firstError());
    }
}
