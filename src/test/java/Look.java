/** Tells everything that can be seen of an object without changing it, and makes objects from texts. */
final class Look {
    private Look() {
    }

    static String at(LatticePaths x) {
        StringBuilder told = new StringBuilder();
        for (int what = 0; what <= 6; what++) {
            told.append(x.count(what)).append(' ');
        }
        told.append("error ").append(x.firstError());
        for (int path = 0; path < x.count(0); path++) {
            told.append(" [").append(sites(x, path)).append(']');
        }
        return told.toString();
    }

    /** The numbers of a path's sites from its tail to its head. */
    static String sites(LatticePaths x, int path) {
        StringBuilder told = new StringBuilder();
        for (int place = 0; place < x.path(path, 0); place++) {
            told.append(place == 0 ? "" : " ").append(x.place(path, place));
        }
        return told.toString();
    }

    /** A new object with the paths of the texts. */
    static LatticePaths with(String... texts) {
        LatticePaths x = new LatticePaths();
        for (String text : texts) {
            draw(x, text);
        }
        return x;
    }

    static int draw(LatticePaths x, String text) {
        type(x, text);
        return x.draw();
    }

    static void type(LatticePaths x, String text) {
        x.clearBuffer();
        for (int index = 0; index < text.length(); index++) {
            x.append(text.charAt(index));
        }
    }

    /** So many letters, one after the other. */
    static String letters(String letter, int times) {
        return letter.repeat(times);
    }

    /** Snakes from the first row on, over so many sites. */
    static String snake(int sites) {
        StringBuilder text = new StringBuilder("0,0:");
        for (int site = 1; site < sites; site++) {
            if (site % 10 == 0) {
                text.append('D');
            } else {
                text.append(site / 10 % 2 == 0 ? 'R' : 'L');
            }
        }
        return text.toString();
    }
}
