/** The sentences of promises 11 to 15. */
final class TextSentences {
    private final Due due;
    private final Sentences document;
    private final Edges edges;

    TextSentences(Due due, Sentences document) {
        this.due = due;
        this.document = document;
        this.edges = new Edges(due);
    }

    void test() {
        append();
        clearBuffer();
        firstError();
        draw();
        write();
    }

    private static LatticePaths typed(String text, String... paths) {
        LatticePaths x = Look.with(paths);
        Look.type(x, text);
        return x;
    }

    // ---- promise 11

    private void append() {
        document.under("Promise 11");
        document.says("Appends a character to the buffer.", () -> {
            LatticePaths x = typed("3,7", "0,0:");
            x.append(':');
            x.append('R');
            due.answers("the length", 5, x.count(6));
            due.answers("the path of the text", 1, x.draw());
            due.tells("its sites", "73 74", Look.sites(x, 1));
            edges.savesNothing("append", x, () -> x.append('U'));
        });
        document.says("- `code`: a character code, 33 to 126",
                () -> edges.takes("the code", 33, 126, (x, code) -> x.append(code)));
        document.says("Returns the new length of the buffer.", () -> {
            LatticePaths x = new LatticePaths();
            for (int length = 1; length <= 70; length++) {
                due.answers("append", length, x.append(32 + length));
            }
            x.clearBuffer();
            due.answers("append behind clearBuffer", 1, x.append('U'));
            Look.draw(x, "0,0:RR");
            due.answers("append behind draw", 1, x.append('U'));
            x.write(0);
            due.answers("append behind write", 7, x.append('U'));
        });
        document.says("Throws `IllegalArgumentException` if code is out of range", () -> {
            edges.throwsArgument("the code", 33, 126, (x, code) -> x.append(code));
            for (int code : new int[] {0, 10, 31, 128, 255, 256 + 'U', 65536 + 'U', -65536 + 'U'}) {
                LatticePaths x = new LatticePaths();
                due.throwsArgument(x, "append(" + code + ")", () -> x.append(code));
            }
        });
        document.says("Throws `IllegalStateException` if the buffer holds 70 characters", () -> {
            LatticePaths x = typed("U".repeat(69));
            due.answers("the 70th", 70, x.append('~'));
            due.throwsState(x, "the 71st", () -> x.append('!'));
            due.throwsState(x, "the 71st once more", () -> x.append('~'));
            due.throwsArgument(x, "a wrong 71st", () -> x.append(127));
        });
    }

    // ---- promise 12

    private void clearBuffer() {
        document.under("Promise 12");
        document.says("Clears the buffer.", () -> {
            LatticePaths x = typed("3,7:x", "0,0:R");
            x.clearBuffer();
            due.tells("all", "1 2 0 0 0 1 0 error 0 [0 1]", Look.at(x));
            due.throwsArgument(x, "draw of what was there", () -> x.draw());
            edges.savesNothing("clearBuffer", x, () -> x.clearBuffer());
            Look.type(x, "9");
            due.answers("what was there is gone", 1, x.firstError());
        });
        document.says("Returns the length that it had.", () -> {
            LatticePaths x = new LatticePaths();
            due.answers("an empty one", 0, x.clearBuffer());
            for (int length = 1; length <= 70; length++) {
                Look.type(x, "x".repeat(length));
                due.answers("clearBuffer", length, x.clearBuffer());
            }
            due.answers("clearBuffer once more", 0, x.clearBuffer());
        });
    }

    // ---- promise 13

    private void firstError() {
        document.under("Promise 13");
        document.says("Finds the first error of the buffer.", () -> {
            String right = "3,7:" + "URDL".repeat(16) + "UR";
            for (int error = 0; error < 70; error++) {
                LatticePaths x = typed(right.substring(0, error) + "x" + "?".repeat(69 - error));
                due.answers("the first error", error, x.firstError());
                edges.savesNothing("firstError", x, () -> x.firstError());
            }
        });
        document.says("Returns its index; the length of the buffer if there is no error (also if the text is not"
                + " complete).", () -> {
            String right = "3,7:" + "URDL".repeat(16) + "UR";
            for (int length = 0; length <= 70; length++) {
                due.answers("the length", length, typed(right.substring(0, length)).firstError());
            }
            due.answers("an index before the end", 2, typed("3,:UU").firstError());
            due.answers("the last index", 4, typed("3,7:u").firstError());
            due.answers("the index of a fifth sign that is no letter", 4, typed("3,7:7").firstError());
        });
    }

    // ---- promise 14

    private void draw() {
        document.under("Promise 14");
        document.says("Adds the path that the buffer tells, and clears the buffer.", () -> {
            LatticePaths x = typed("3,7:URRDDL", "0,0:R");
            x.draw();
            due.tells("all", "2 9 0 0 0 2 0 error 0 [0 1] [73 63 64 65 75 85 84]", Look.at(x));
            due.tells("what stands on the sites", Look.sitesOfPaths(x), Look.marks(x));
            due.answers("no letter", 1, Look.with("3,7:").path(0, 0));
            due.answers("59 letters", 60, Look.with(Look.snake(60)).path(0, 0));
        });
        document.says("Undoable.", () -> {
            LatticePaths x = typed("3,7:URRDDL", "0,0:R");
            x.draw();
            due.answers("the saved states", 2, x.count(5));
            due.answers("undo", 1, x.undo());
            due.tells("all, with the buffer cleared still", "1 2 0 0 0 1 0 error 0 [0 1]", Look.at(x));
            due.tells("what stands on the sites", Look.sitesOfPaths(x), Look.marks(x));
        });
        document.says("Returns its number.", () -> {
            LatticePaths x = new LatticePaths();
            for (int number = 0; number < 5; number++) {
                due.answers("draw", number, Look.draw(x, number + ",0:D"));
            }
            x.remove(2);
            due.answers("draw behind a removal", 4, Look.draw(x, "2,0:D"));
        });
        document.says("Throws `IllegalArgumentException` if the buffer is not a complete path text", () -> {
            String[] texts = {
                "", "3", "3,", "3,7", "x", "3x", "3,x", "3,7x", "3,7:x", "3,7:Ux", "3,7:UxU", "33,7:", "3,77:",
                "3,7:u", "3,7:7", "3,7::", "U", ":", ",", "3:7,", "3,7:" + "U".repeat(65) + "x",
            };
            for (String text : texts) {
                LatticePaths x = typed(text, "0,0:R");
                due.throwsArgument(x, "draw of '" + text + "'", () -> x.draw());
                LatticePaths full = typed(text, Edges.FIVE);
                due.throwsArgument(full, "draw of '" + text + "' with 5 paths", () -> full.draw());
            }
        });
        document.says("Throws `IllegalStateException` if there are 5 paths, or the path would have more than 60"
                + " sites, or a site that is not on the lattice, not free, or twice in it", this::drawWhereItCannot);
    }

    private void drawWhereItCannot() {
        LatticePaths five = typed("9,0:", Edges.FIVE);
        due.throwsState(five, "draw of a sixth", () -> five.draw());
        five.remove(0);
        due.answers("draw of a fifth", 4, five.draw());
        notDrawn("61 sites", Look.snake(61));
        notDrawn("67 sites", Look.snake(67));
        notDrawn("above the lattice", "4,0:U");
        notDrawn("right of the lattice", "9,4:R");
        notDrawn("below the lattice", "4,9:D");
        notDrawn("left of the lattice", "0,4:L");
        notDrawn("off the lattice and back", "0,4:LR");
        notDrawn("off the lattice in the middle", "8,4:RRUL");
        notDrawn("a tail that is not free", "5,5:", "5,5:");
        notDrawn("a head that is not free", "5,3:DD", "5,5:");
        notDrawn("a site between that is not free", "4,5:RR", "5,5:");
        notDrawn("a site of the second path", "4,5:RR", "0,0:", "5,5:");
        notDrawn("the tail twice", "5,5:UD");
        notDrawn("the tail twice, round a ring", "5,5:RDLU");
        notDrawn("a site between twice", "5,5:RRDLU");
        notDrawn("the head twice", "5,5:RRDLUU");
        LatticePaths free = typed("5,5:R", "5,5:R");
        free.remove(0);
        due.answers("draw of what is free again", 0, free.draw());
    }

    private void notDrawn(String what, String text, String... paths) {
        LatticePaths x = typed(text, paths);
        due.throwsState(x, "draw, " + what, () -> x.draw());
        due.answers("the length of the buffer behind it", text.length(), x.clearBuffer());
        due.answers("draw of another path", paths.length, Look.draw(x, "9,9:"));
    }

    // ---- promise 15

    private void write() {
        document.under("Promise 15");
        document.says("Puts the path text of a path into the buffer, in place of what was there.", () -> {
            written("", "3,7:URRDDL");
            written("1,1:UUUUUUUUUUUU", "3,7:URRDDL");
            written("x".repeat(70), "3,7:");
            written("x".repeat(70), Look.ring());
            written("7", Look.snake(60));
            written("9,9:", "0,9:UUU");
            LatticePaths x = Look.with("3,7:U");
            edges.savesNothing("write", x, () -> x.write(0));
        });
        document.says("- `path`: its number", () -> {
            edges.eachPath("write", (x, path) -> x.write(path), 5, 6, 7, 8, 9);
            for (int path = 0; path < 5; path++) {
                LatticePaths x = Look.with(Edges.FIVE);
                String sites = Look.sites(x, path);
                x.write(path);
                x.remove(path);
                x.draw();
                due.tells("the path that was written", sites, Look.sites(x, 4));
            }
        });
        document.says("Returns the length of the buffer then.", () -> {
            LatticePaths x = Look.with(Look.snake(60));
            for (int sites = 60; sites >= 1; sites--) {
                due.answers("write of " + sites + " sites", sites + 3, x.write(0));
                due.answers("the length", sites + 3, x.count(6));
                if (sites > 1) {
                    x.back(0);
                }
            }
        });
        document.says("Throws `IndexOutOfBoundsException` if there is no such path",
                () -> edges.noSuchPath("write", (x, path) -> x.write(path)));
    }

    /** The buffer cannot be read, but what is drawn from it must be the path again, and nothing may stand behind it. */
    private void written(String before, String path) {
        LatticePaths x = typed(before, path);
        String sites = Look.sites(x, 0);
        due.answers("write", path.length(), x.write(0));
        due.answers("the first error", path.length(), x.firstError());
        x.remove(0);
        due.answers("draw", 0, x.draw());
        due.tells("the sites of " + path, sites, Look.sites(x, 0));
    }
}
