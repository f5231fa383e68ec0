/** Promises 11 to 15: the buffer and the path text in it. */
public final class PathTextTest {
    private static final Due due = new Due("PathTextTest");

    public static void main(String[] args) {
        append();
        appendWrongly();
        clearBuffer();
        firstError();
        firstErrorOfAnyCharacter();
        firstErrorOfLongTexts();
        draw();
        drawWhatIsNoPathText();
        drawWhereThereIsNoRoom();
        write();
        writeWrongly();
        due.end();
    }

    private static void append() {
        LatticePaths x = new LatticePaths();
        due.answers("append of the least code", 1, x.append(33));
        due.answers("append of the greatest code", 2, x.append(126));
        due.answers("append", 3, x.append('U'));
        due.answers("the length of the buffer", 3, x.count(6));
        due.answers("appending saves no state", 0, x.count(5));
    }

    private static void appendWrongly() {
        LatticePaths x = new LatticePaths();
        due.throwsArgument(x, "append(32)", () -> x.append(32));
        due.throwsArgument(x, "append(127)", () -> x.append(127));
        due.throwsArgument(x, "append(-1)", () -> x.append(-1));
        due.throwsArgument(x, "append of 'U' and 65536", () -> x.append('U' + 65536));
        Look.type(x, Look.letters("U", 69));
        due.answers("append of the 70th", 70, x.append('U'));
        due.throwsState(x, "append of the 71st", () -> x.append('U'));
        due.throwsArgument(x, "append of a wrong 71st", () -> x.append(200));
        due.answers("the length of the buffer", 70, x.count(6));
    }

    private static void clearBuffer() {
        LatticePaths x = new LatticePaths();
        due.answers("clearBuffer of an empty one", 0, x.clearBuffer());
        Look.type(x, "1,2:UR");
        due.answers("clearBuffer", 6, x.clearBuffer());
        due.answers("the length of the buffer", 0, x.count(6));
        due.answers("append afterwards", 1, x.append('7'));
        due.answers("clearing saves no state", 0, x.count(5));
    }

    private static void firstError() {
        error("", 0);
        error("0", 1);
        error("9", 1);
        error("0,", 2);
        error("0,9", 3);
        error("0,9:", 4);
        error("0,9:URDL", 8);
        error("x", 0);
        error("/,0:", 0);
        error(":,0:", 0);
        error("U", 0);
        error(",", 0);
        error("10", 1);
        error("1:0:", 1);
        error("1,x", 2);
        error("1,,", 2);
        error("1,1,", 3);
        error("1,11:", 3);
        error("1,1U", 3);
        error("1,1:u", 4);
        error("1,1:1", 4);
        error("1,1:UUx", 6);
        error("1,1:UU:", 6);
        error("1,1:UxU", 5);
        error("xx", 0);
        // what is on the lattice, or beyond it, does not matter
        error("0,0:UUU", 7);
        error("5,5:RL", 6);
    }

    private static void error(String text, int want) {
        LatticePaths x = Look.with("5,5:", "1,1:UR");
        Look.type(x, text);
        due.answers("firstError of '" + text + "'", want, x.firstError());
        due.answers("the length behind it", text.length(), x.count(6));
    }

    private static void firstErrorOfAnyCharacter() {
        for (char code = 33; code <= 126; code++) {
            boolean isDigit = "0123456789".indexOf(code) >= 0;
            boolean isLetter = "URDL".indexOf(code) >= 0;
            error("" + code, isDigit ? 1 : 0);
            error("3" + code, code == ',' ? 2 : 1);
            error("3," + code, isDigit ? 3 : 2);
            error("3,4" + code, code == ':' ? 4 : 3);
            error("3,4:" + code, isLetter ? 5 : 4);
            error("3,4:U" + code, isLetter ? 6 : 5);
        }
    }

    private static void firstErrorOfLongTexts() {
        error("3,4:" + Look.letters("U", 66), 70);
        error("3,4:" + Look.letters("U", 65) + "x", 69);
        error("3,4:" + Look.letters("UD", 33), 70);
    }

    private static void draw() {
        LatticePaths x = new LatticePaths();
        due.answers("draw", 0, Look.draw(x, "2,3:URDDL"));
        due.tells("all", "1 6 0 0 0 1 0 error 0 [32 22 23 33 43 42]", Look.at(x));
        due.answers("draw of one site", 1, Look.draw(x, "9,0:"));
        due.answers("draw of a third", 2, Look.draw(x, "0,9:R"));
        due.answers("draw of a fourth", 3, Look.draw(x, "0,0:"));
        due.answers("draw of a fifth", 4, Look.draw(x, "9,9:L"));
        due.tells("all", "5 12 0 0 0 5 0 error 0 [32 22 23 33 43 42] [9] [90 91] [0] [99 98]", Look.at(x));
        LatticePaths sixty = Look.with(Look.snake(60));
        due.answers("the sites of a long text", 60, sixty.path(0, 0));
    }

    private static void drawWhatIsNoPathText() {
        LatticePaths x = Look.with("5,5:R");
        String[] texts = {"", "1", "1,", "1,1", "x", "1,1:x", "1,1:URx", "10,1:", "1,1:1", "5,5", "1,1;"};
        for (String text : texts) {
            Look.type(x, text);
            due.throwsArgument(x, "draw of '" + text + "'", () -> x.draw());
            due.answers("the buffer behind it", text.length(), x.count(6));
        }
        Look.draw(x, "0,0:");
        Look.draw(x, "2,0:");
        Look.draw(x, "4,0:");
        Look.draw(x, "6,0:");
        Look.type(x, "9,9");
        due.throwsArgument(x, "draw of no path text with 5 paths", () -> x.draw());
    }

    private static void drawWhereThereIsNoRoom() {
        LatticePaths x = Look.with("5,5:R");
        String[] texts = {
            "5,5:", "6,5:U", "5,4:D", "6,3:DDD", "0,0:U", "0,0:L", "9,9:R", "9,9:D", "9,3:R", "0,3:L", "1,1:UD",
            "1,1:RDLU", "1,1:RDLUU", Look.snake(61), Look.snake(66), "0,0:" + Look.letters("R", 66),
        };
        for (String text : texts) {
            Look.type(x, text);
            due.throwsState(x, "draw of '" + text + "'", () -> x.draw());
            due.answers("the buffer behind it", text.length(), x.count(6));
        }
        Look.draw(x, "0,0:");
        Look.draw(x, "2,0:");
        Look.draw(x, "4,0:");
        Look.draw(x, "6,0:");
        Look.type(x, "9,9:");
        due.throwsState(x, "draw of a sixth path", () -> x.draw());
        x.remove(0);
        due.answers("draw of a fifth path", 4, x.draw());
        LatticePaths empty = new LatticePaths();
        Look.type(empty, Look.snake(61));
        due.throwsState(empty, "draw of 61 sites", () -> empty.draw());
    }

    private static void write() {
        String[] texts = {"0,0:", "9,9:L", "2,3:URDDLLL", "0,9:RUL", "7,0:DDLU", Look.snake(60)};
        for (String text : texts) {
            LatticePaths x = Look.with(text);
            String sites = Look.sites(x, 0);
            Look.type(x, "what_was_there_is_gone_afterwards");
            due.answers("write of " + text, text.length(), x.write(0));
            due.answers("the length of the buffer", text.length(), x.count(6));
            due.answers("the error of what was written", text.length(), x.firstError());
            due.answers("writing saves no state", 1, x.count(5));
            x.remove(0);
            due.answers("draw of what was written", 0, x.draw());
            due.tells("the sites of what was written", sites, Look.sites(x, 0));
        }
    }

    private static void writeWrongly() {
        LatticePaths x = Look.with("5,5:");
        Look.type(x, "abc");
        due.throwsIndex(x, "write(1)", () -> x.write(1));
        due.throwsIndex(x, "write(-1)", () -> x.write(-1));
        due.throwsIndex(x, "write(5)", () -> x.write(5));
        due.answers("the buffer behind it", 3, x.count(6));
    }
}
