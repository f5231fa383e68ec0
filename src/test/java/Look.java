import java.util.Arrays;

/** Tells everything that can be seen of an object without changing it, and makes objects from texts. */
final class Look {
    private Look() {
    }

    static String at(LatticePaths x) {
        StringBuilder told = new StringBuilder();
        for (int what = 0; what <= 6; what++) {
            told.append(x.count(what)).append(' ');
        }
        told.append("error ").append(x.firstError());
        for (int path = 0; path < x.count(0); path++) {
            told.append(" [").append(sites(x, path)).append(']');
        }
        return told.toString();
    }

    /** The numbers of a path's sites from its tail to its head. */
    static String sites(LatticePaths x, int path) {
        StringBuilder told = new StringBuilder();
        for (int place = 0; place < x.path(path, 0); place++) {
            told.append(place == 0 ? "" : " ").append(x.place(path, place));
        }
        return told.toString();
    }

    /** The path and the number in it for each site that is not free, as the paths tell. */
    static String sitesOfPaths(LatticePaths x) {
        String[] marks = new String[100];
        for (int path = 0; path < x.count(0); path++) {
            for (int place = 0; place < x.path(path, 0); place++) {
                marks[x.place(path, place)] = path + "." + place;
            }
        }
        return Arrays.toString(marks);
    }

    /** The same, as the sites tell: a free site has neither a path nor a number. */
    static String marks(LatticePaths x) {
        String[] marks = new String[100];
        for (int site = 0; site < 100; site++) {
            int path = x.site(site % 10, site / 10, 0);
            int number = x.site(site % 10, site / 10, 1);
            if (path != -1 || number != -1) {
                marks[site] = path + "." + number;
            }
        }
        return Arrays.toString(marks);
    }

    /**
     * Tells all that an object holds, which ends with an object without paths: the saved states by undoing them, the
     * snapshots by going back to them, and the buffer by reading it.
     */
    static String drained(LatticePaths x) {
        StringBuilder told = new StringBuilder(at(x));
        while (x.count(5) > 0) {
            told.append("\nundone ").append(x.undo()).append(' ').append(at(x));
        }
        for (int slot = 0; slot < 2; slot++) {
            told.append("\nslot ").append(slot).append(' ').append(wentBack(x, slot)).append(' ').append(at(x));
        }
        while (x.count(0) > 0) {
            x.remove(0);
        }
        return told.append("\nread ").append(read(x)).append(' ').append(at(x)).toString();
    }

    private static String wentBack(LatticePaths x, int slot) {
        try {
            return "" + x.goBack(slot);
        } catch (IllegalStateException thrown) {
            return "empty";
        }
    }

    private static String read(LatticePaths x) {
        try {
            return "" + x.draw();
        } catch (IllegalArgumentException | IllegalStateException thrown) {
            return thrown.getClass().getSimpleName();
        }
    }

    /** A new object with the paths of the texts. */
    static LatticePaths with(String... texts) {
        LatticePaths x = new LatticePaths();
        for (String text : texts) {
            draw(x, text);
        }
        return x;
    }

    static int draw(LatticePaths x, String text) {
        type(x, text);
        return x.draw();
    }

    static void type(LatticePaths x, String text) {
        x.clearBuffer();
        for (int index = 0; index < text.length(); index++) {
            x.append(text.charAt(index));
        }
    }

    /** So many letters, one after the other. */
    static String letters(String letter, int times) {
        return letter.repeat(times);
    }

    /** Snakes from the first row on, over so many sites. */
    static String snake(int sites) {
        StringBuilder text = new StringBuilder("0,0:");
        for (int site = 1; site < sites; site++) {
            if (site % 10 == 0) {
                text.append('D');
            } else {
                text.append(site / 10 % 2 == 0 ? 'R' : 'L');
            }
        }
        return text.toString();
    }

    /** Sixty sites in the first six rows, of which the last one, at column 0 and row 1, is below the first one. */
    static String ring() {
        return "0,0:RRRRRRRRRDLLLLLLLLDRRRRRRRRDLLLLLLLLDRRRRRRRRDLLLLLLLLLUUUU";
    }
}
