import java.util.Arrays;

/** Paths on a lattice of 10 by 10 sites that never cross themselves or one another. */
public final class LatticePaths {
    public static final int NONE = -1;

    private static final int SIDE = 10;
    private static final int SITES = SIDE * SIDE;
    private static final int DIRECTIONS = 4;
    private static final int RIGHT = 1;
    private static final int DOWN = 2;
    private static final int LEFT = 3;
    private static final int MOST_PATHS = 5;
    private static final int LONGEST = 60;
    private static final int LONGEST_TEXT = 70;
    private static final int FIRST_CODE = 33;
    private static final int LAST_CODE = 126;
    private static final int MOST_SAVED = 6;
    private static final int SLOTS = 2;
    private static final int MOST_WAYS_STEPS = 6;
    private static final int FURTHER_STEPS = 4;

    /** The answer of a step or a turn that is made; the other four are the reasons of the refused ones. */
    private static final int MADE = 0;
    private static final int OFF_LATTICE = 1;
    private static final int ON_ITSELF = 2;
    private static final int ON_ANOTHER = 3;
    private static final int TOO_LONG = 4;

    private final Board board = new Board();
    private final History history = new History();
    private final Snapshots snapshots = new Snapshots();
    private final PathText text = new PathText();

    /** The rows below are worked in anew by each call that needs them: no call makes any of its own. */
    private final Trail sketch = new Trail();
    private final Turning turning = new Turning();
    private final Scout scout = new Scout();
    private final Regions regions = new Regions();
    private final Shape foundShape = new Shape();
    private final Shape otherShape = new Shape();

    public LatticePaths() {
    }

    // ---- paths

    public int start(int column, int row) throws IndexOutOfBoundsException, IllegalStateException {
        int site = checkedSite(column, row);
        if (!board.isFree(site) || board.isFull()) {
            throw new IllegalStateException("the site is not free, or there are 5 paths");
        }
        history.save(board);
        sketch.begin(site);
        return board.add(sketch);
    }

    public int step(int path, int direction) throws IndexOutOfBoundsException, IllegalArgumentException {
        checkPath(path);
        checkDirection(direction);
        history.save(board);
        return board.lengthen(path, direction);
    }

    public int back(int path) throws IndexOutOfBoundsException, IllegalStateException {
        checkPath(path);
        if (board.trail(path).length() < 2) {
            throw new IllegalStateException("the path has only one site");
        }
        history.save(board);
        return board.shorten(path);
    }

    public int slither(int path, int direction) throws IndexOutOfBoundsException, IllegalArgumentException {
        checkPath(path);
        checkDirection(direction);
        history.save(board);
        return board.creep(path, direction);
    }

    public int turn(int path, int place, int quarters) throws IndexOutOfBoundsException, IllegalArgumentException {
        checkPlace(path, place);
        checkQuarters(quarters);
        history.save(board);
        int reason = turning.refusal(board, path, place, quarters);
        board.noteTurn(reason);
        if (reason == MADE) {
            turning.moveSites(board, path, place);
        }
        return reason;
    }

    public int reverse(int path) throws IndexOutOfBoundsException {
        checkPath(path);
        history.save(board);
        return board.flip(path);
    }

    public int join(int path, int other)
            throws IndexOutOfBoundsException, IllegalArgumentException, IllegalStateException {
        checkTwoPaths(path, other);
        Trail one = board.trail(path);
        Trail two = board.trail(other);
        if (!Lattice.areNeighbours(one.head(), two.head()) || one.length() + two.length() > LONGEST) {
            throw new IllegalStateException("the heads are not neighbours, or there are more than 60 sites");
        }
        history.save(board);
        return board.weld(path, other);
    }

    public int split(int path, int place) throws IndexOutOfBoundsException, IllegalStateException {
        checkPlace(path, place);
        if (place == board.trail(path).length() - 1) {
            throw new IndexOutOfBoundsException("the site is the head already");
        }
        if (board.isFull()) {
            throw new IllegalStateException("there are 5 paths");
        }
        history.save(board);
        return board.cut(path, place);
    }

    public int remove(int path) throws IndexOutOfBoundsException {
        checkPath(path);
        history.save(board);
        board.drop(path);
        return board.pathCount();
    }

    // ---- path text

    public int append(int code) throws IllegalArgumentException, IllegalStateException {
        checkRange(code, FIRST_CODE, LAST_CODE);
        if (text.isFull()) {
            throw new IllegalStateException("the buffer holds 70 characters");
        }
        text.add((char) code);
        return text.length();
    }

    public int clearBuffer() {
        int length = text.length();
        text.clear();
        return length;
    }

    public int firstError() {
        return text.errorIndex();
    }

    public int draw() throws IllegalArgumentException, IllegalStateException {
        if (!text.isComplete()) {
            throw new IllegalArgumentException("the buffer is not a complete path text");
        }
        if (board.isFull() || !text.layOut(sketch, board)) {
            throw new IllegalStateException("there is no room for the path");
        }
        history.save(board);
        text.clear();
        return board.add(sketch);
    }

    public int write(int path) throws IndexOutOfBoundsException {
        checkPath(path);
        text.tell(board.trail(path));
        return text.length();
    }

    // ---- undo and snapshots

    public int undo() throws IllegalStateException {
        if (history.size() == 0) {
            throw new IllegalStateException("no state is saved");
        }
        history.restoreLast(board);
        return history.size();
    }

    public int keep(int slot) throws IllegalArgumentException {
        checkRange(slot, 0, SLOTS - 1);
        snapshots.take(slot, board);
        return board.pathCount();
    }

    public int goBack(int slot) throws IllegalArgumentException, IllegalStateException {
        checkRange(slot, 0, SLOTS - 1);
        if (!snapshots.isTaken(slot)) {
            throw new IllegalStateException("the slot is empty");
        }
        history.save(board);
        snapshots.putInto(board, slot);
        return board.pathCount();
    }

    // ---- queries about sites and paths; nothing changes

    public int site(int column, int row, int what) throws IndexOutOfBoundsException, IllegalArgumentException {
        int site = checkedSite(column, row);
        checkRange(what, 0, 2);
        switch (what) {
            case 0:
                return board.pathAt(site);
            case 1:
                return board.placeAt(site);
            default:
                return board.freeDirections(site);
        }
    }

    public int place(int path, int place) throws IndexOutOfBoundsException {
        checkPath(path);
        return board.trail(path).at(place);
    }

    public int path(int path, int what) throws IndexOutOfBoundsException, IllegalArgumentException {
        checkPath(path);
        checkRange(what, 0, 8);
        Trail trail = board.trail(path);
        switch (what) {
            case 0:
                return trail.length();
            case 1:
                return trail.corners();
            case 2:
                return board.contacts(path);
            case 3:
                return trail.width();
            case 4:
                return trail.height();
            case 5:
                return Lattice.squaredDistance(trail.tail(), trail.head());
            case 6:
                return board.freeDirections(trail.head());
            case 7:
                return trail.moment();
            default:
                return board.freeBorder(path);
        }
    }

    public int trapped() {
        int mask = 0;
        for (int path = 0; path < board.pathCount(); path++) {
            if (board.freeDirections(board.trail(path).head()) == 0) {
                mask |= 1 << path;
            }
        }
        return mask;
    }

    public int touching(int path, int other) throws IndexOutOfBoundsException, IllegalArgumentException {
        checkTwoPaths(path, other);
        return board.touchingPairs(path, other);
    }

    public int shape(int path, int index) throws IndexOutOfBoundsException, IllegalArgumentException {
        checkPath(path);
        if (index < 0) {
            throw new IllegalArgumentException("the index is negative");
        }
        foundShape.find(board.trail(path));
        return foundShape.stepAt(index);
    }

    public boolean isAlike(int path, int other) throws IndexOutOfBoundsException {
        checkPath(path);
        checkPath(other);
        foundShape.find(board.trail(path));
        otherShape.find(board.trail(other));
        return foundShape.matches(otherShape);
    }

    public int free(int what) throws IllegalArgumentException {
        checkRange(what, 0, 3);
        regions.explore(board);
        switch (what) {
            case 0:
                return SITES - board.takenSites();
            case 1:
                return regions.size();
            case 2:
                return regions.greatest();
            default:
                return regionsAtHeads();
        }
    }

    // ---- what would be; nothing changes

    public int ways(int path, int steps) throws IndexOutOfBoundsException, IllegalArgumentException {
        checkPath(path);
        checkRange(steps, 0, MOST_WAYS_STEPS);
        return scout.rowsOfSteps(board, path, steps);
    }

    public int bestStep(int path) throws IndexOutOfBoundsException {
        checkPath(path);
        return scout.bestDirection(board, path);
    }

    public int reach(int path) throws IndexOutOfBoundsException {
        checkPath(path);
        regions.explore(board);
        regions.chooseAround(board.trail(path).head());
        return regions.chosenSites();
    }

    public int ifTurned(int path, int place, int quarters)
            throws IndexOutOfBoundsException, IllegalArgumentException {
        checkPlace(path, place);
        checkQuarters(quarters);
        return turning.refusal(board, path, place, quarters);
    }

    public int turnable(int path) throws IndexOutOfBoundsException {
        checkPath(path);
        return turning.possibleTurns(board, path);
    }

    public int count(int what) throws IllegalArgumentException {
        checkRange(what, 0, 6);
        switch (what) {
            case 0:
                return board.pathCount();
            case 1:
                return board.takenSites();
            case 2:
                return board.stepsMade();
            case 3:
                return board.refusals();
            case 4:
                return board.turnsMade();
            case 5:
                return history.size();
            default:
                return text.length();
        }
    }

    public double spread(int path) throws IndexOutOfBoundsException {
        checkPath(path);
        Trail trail = board.trail(path);
        double sites = (double) trail.length();
        // a path has a site at least, so this never divides by 0
        return (double) trail.moment() / (sites * sites);
    }

    public float share() {
        return (float) board.takenSites() / 100.0f;
    }

    // ---- helpers of the calls above

    private int regionsAtHeads() {
        for (int path = 0; path < board.pathCount(); path++) {
            regions.chooseAround(board.trail(path).head());
        }
        return regions.chosenRegions();
    }

    private static int checkedSite(int column, int row) {
        int site = Lattice.number(column, row);
        if (site == NONE) {
            throw new IndexOutOfBoundsException("there is no such site");
        }
        return site;
    }

    private void checkPath(int path) {
        if (path < 0 || path >= board.pathCount()) {
            throw new IndexOutOfBoundsException("there is no such path");
        }
    }

    private void checkPlace(int path, int place) {
        checkPath(path);
        if (!board.trail(path).has(place)) {
            throw new IndexOutOfBoundsException("the path has no such site");
        }
    }

    private void checkTwoPaths(int path, int other) {
        checkPath(path);
        checkPath(other);
        if (path == other) {
            throw new IllegalArgumentException("both paths are the same");
        }
    }

    private static void checkDirection(int direction) {
        checkRange(direction, 0, DIRECTIONS - 1);
    }

    private static void checkQuarters(int quarters) {
        checkRange(quarters, 1, 3);
    }

    private static void checkRange(int value, int least, int greatest) {
        if (value < least || value > greatest) {
            throw new IllegalArgumentException("the argument is out of range");
        }
    }

    /** The sites, their numbers and the directions between them. */
    private static final class Lattice {
        private static final int[] ACROSS = {0, 1, 0, -1};
        private static final int[] ALONG = {-1, 0, 1, 0};

        /** Answers NONE where there is no such site. */
        static int number(int column, int row) {
            if (column < 0 || column >= SIDE || row < 0 || row >= SIDE) {
                return NONE;
            }
            return SIDE * row + column;
        }

        static boolean isSite(int site) {
            return site >= 0 && site < SITES;
        }

        static int column(int site) {
            return site % SIDE;
        }

        static int row(int site) {
            return site / SIDE;
        }

        /** Answers NONE where the lattice ends, and for what is no direction. */
        static int neighbour(int site, int direction) {
            if (direction < 0 || direction >= DIRECTIONS) {
                return NONE;
            }
            return number(column(site) + ACROSS[direction], row(site) + ALONG[direction]);
        }

        /** Only for sites that are neighbours: what is in none of the other directions is left. */
        static int direction(int from, int to) {
            for (int direction = 0; direction < LEFT; direction++) {
                if (neighbour(from, direction) == to) {
                    return direction;
                }
            }
            return LEFT;
        }

        static int squaredDistance(int one, int other) {
            int columns = column(one) - column(other);
            int rows = row(one) - row(other);
            return columns * columns + rows * rows;
        }

        static boolean areNeighbours(int one, int other) {
            return squaredDistance(one, other) == 1;
        }
    }

    /** One path: its sites from the tail to the head. */
    private static final class Trail {
        private final int[] sites = new int[LONGEST];
        private int length;

        int length() {
            return length;
        }

        boolean isFull() {
            return length >= LONGEST;
        }

        boolean has(int place) {
            return place >= 0 && place < length;
        }

        /** Answers NONE where there is no such place. */
        int at(int place) {
            return has(place) ? sites[place] : NONE;
        }

        int tail() {
            return at(0);
        }

        int head() {
            return at(length - 1);
        }

        boolean covers(int site) {
            for (int place = 0; place < length; place++) {
                if (sites[place] == site) {
                    return true;
                }
            }
            return false;
        }

        void clear() {
            length = 0;
        }

        void begin(int site) {
            clear();
            push(site);
        }

        void push(int site) {
            if (!isFull()) {
                sites[length] = site;
                length++;
            }
        }

        void put(int place, int site) {
            if (has(place)) {
                sites[place] = site;
            }
        }

        /** Lets the site at the place be the head. */
        void endAt(int place) {
            if (has(place)) {
                length = place + 1;
            }
        }

        void advanceTo(int site) {
            for (int place = 1; place < length; place++) {
                sites[place - 1] = sites[place];
            }
            put(length - 1, site);
        }

        /** Takes over the sites of the other trail from a place on. */
        void copyFrom(Trail other, int first) {
            clear();
            for (int place = first; place < other.length; place++) {
                push(other.at(place));
            }
        }

        void flip() {
            for (int low = 0, high = length - 1; low < high; low++, high--) {
                int site = sites[low];
                sites[low] = sites[high];
                sites[high] = site;
            }
        }

        int steps() {
            return length - 1;
        }

        int stepAt(int index) {
            return Lattice.direction(at(index), at(index + 1));
        }

        int corners() {
            int corners = 0;
            for (int index = 1; index < steps(); index++) {
                if (stepAt(index) != stepAt(index - 1)) {
                    corners++;
                }
            }
            return corners;
        }

        int width() {
            int least = SIDE;
            int greatest = 0;
            for (int place = 0; place < length; place++) {
                least = Math.min(least, Lattice.column(sites[place]));
                greatest = Math.max(greatest, Lattice.column(sites[place]));
            }
            return greatest - least + 1;
        }

        int height() {
            int least = SIDE;
            int greatest = 0;
            for (int place = 0; place < length; place++) {
                least = Math.min(least, Lattice.row(sites[place]));
                greatest = Math.max(greatest, Lattice.row(sites[place]));
            }
            return greatest - least + 1;
        }

        int moment() {
            int columns = 0;
            int rows = 0;
            int squares = 0;
            for (int place = 0; place < length; place++) {
                int column = Lattice.column(sites[place]);
                int row = Lattice.row(sites[place]);
                columns += column;
                rows += row;
                squares += column * column + row * row;
            }
            return length * squares - columns * columns - rows * rows;
        }
    }

    /** The state: the paths and what was counted so far. */
    private static final class Board {
        private final Trail[] trails = new Trail[MOST_PATHS];
        private int pathCount;
        private int stepsMade;
        private int refusals;
        private int turnsMade;
        /** What stands on each site: told by the trails, kept so that it need not be searched. */
        private final int[] pathAt = new int[SITES];
        private final int[] placeAt = new int[SITES];
        private int takenSites;

        Board() {
            for (int path = 0; path < MOST_PATHS; path++) {
                trails[path] = new Trail();
            }
            Arrays.fill(pathAt, NONE);
            Arrays.fill(placeAt, NONE);
        }

        /** Marks anew what stands on each site; every change of a trail ends with it. */
        void markSites() {
            Arrays.fill(pathAt, NONE);
            Arrays.fill(placeAt, NONE);
            takenSites = 0;
            for (int path = 0; path < pathCount; path++) {
                Trail trail = trails[path];
                for (int place = 0; place < trail.length(); place++) {
                    mark(trail.at(place), path, place);
                }
                takenSites += trail.length();
            }
        }

        private void mark(int site, int path, int place) {
            if (Lattice.isSite(site)) {
                pathAt[site] = path;
                placeAt[site] = place;
            }
        }

        int pathCount() {
            return pathCount;
        }

        boolean isFull() {
            return pathCount >= MOST_PATHS;
        }

        Trail trail(int path) {
            return trails[path];
        }

        int pathAt(int site) {
            return Lattice.isSite(site) ? pathAt[site] : NONE;
        }

        int placeAt(int site) {
            return Lattice.isSite(site) ? placeAt[site] : NONE;
        }

        /** What is not on the lattice is not free either. */
        boolean isFree(int site) {
            return Lattice.isSite(site) && pathAt[site] == NONE;
        }

        int takenSites() {
            return takenSites;
        }

        int stepsMade() {
            return stepsMade;
        }

        int refusals() {
            return refusals;
        }

        int turnsMade() {
            return turnsMade;
        }

        int add(Trail trail) {
            int path = pathCount;
            trails[path].copyFrom(trail, 0);
            pathCount++;
            markSites();
            return path;
        }

        int lengthen(int path, int direction) {
            Trail trail = trails[path];
            int target = Lattice.neighbour(trail.head(), direction);
            int reason = refusalAt(target, path);
            if (reason == MADE && trail.isFull()) {
                reason = TOO_LONG;
            }
            if (reason == MADE) {
                trail.push(target);
                markSites();
            }
            noteStep(reason);
            return reason;
        }

        int creep(int path, int direction) {
            Trail trail = trails[path];
            int target = Lattice.neighbour(trail.head(), direction);
            // the tail leaves its site before the head steps, so the head may step there
            int reason = target == trail.tail() ? MADE : refusalAt(target, path);
            if (reason == MADE) {
                trail.advanceTo(target);
                markSites();
            }
            noteStep(reason);
            return reason;
        }

        private int refusalAt(int target, int path) {
            if (target == NONE) {
                return OFF_LATTICE;
            }
            if (pathAt(target) == path) {
                return ON_ITSELF;
            }
            return isFree(target) ? MADE : ON_ANOTHER;
        }

        private void noteStep(int reason) {
            if (reason == MADE) {
                stepsMade++;
            } else {
                refusals++;
            }
        }

        void noteTurn(int reason) {
            if (reason == MADE) {
                turnsMade++;
            } else {
                refusals++;
            }
        }

        int shorten(int path) {
            Trail trail = trails[path];
            trail.endAt(trail.length() - 2);
            markSites();
            return trail.length();
        }

        int flip(int path) {
            trails[path].flip();
            markSites();
            return trails[path].head();
        }

        int weld(int path, int other) {
            Trail one = trails[path];
            Trail two = trails[other];
            for (int place = two.length() - 1; place >= 0; place--) {
                one.push(two.at(place));
            }
            drop(other);
            return one.length();
        }

        int cut(int path, int place) {
            int newPath = pathCount;
            trails[newPath].copyFrom(trails[path], place + 1);
            trails[path].endAt(place);
            pathCount++;
            markSites();
            return newPath;
        }

        void drop(int path) {
            Trail gone = trails[path];
            for (int later = path + 1; later < pathCount; later++) {
                trails[later - 1] = trails[later];
            }
            pathCount--;
            // its trail is used again for the next path that comes
            trails[pathCount] = gone;
            markSites();
        }

        int freeDirections(int site) {
            int mask = 0;
            for (int direction = 0; direction < DIRECTIONS; direction++) {
                if (isFree(Lattice.neighbour(site, direction))) {
                    mask |= 1 << direction;
                }
            }
            return mask;
        }

        int contacts(int path) {
            int contacts = 0;
            Trail trail = trails[path];
            for (int place = 0; place < trail.length(); place++) {
                // looking right and down alone finds each pair once
                for (int direction = RIGHT; direction <= DOWN; direction++) {
                    int next = Lattice.neighbour(trail.at(place), direction);
                    if (pathAt(next) == path && Math.abs(placeAt(next) - place) > 1) {
                        contacts++;
                    }
                }
            }
            return contacts;
        }

        int touchingPairs(int path, int other) {
            int pairs = 0;
            Trail trail = trails[path];
            for (int place = 0; place < trail.length(); place++) {
                pairs += neighboursIn(trail.at(place), other);
            }
            return pairs;
        }

        int freeBorder(int path) {
            int sites = 0;
            for (int site = 0; site < SITES; site++) {
                if (isFree(site) && neighboursIn(site, path) > 0) {
                    sites++;
                }
            }
            return sites;
        }

        private int neighboursIn(int site, int path) {
            int neighbours = 0;
            for (int direction = 0; direction < DIRECTIONS; direction++) {
                if (pathAt(Lattice.neighbour(site, direction)) == path) {
                    neighbours++;
                }
            }
            return neighbours;
        }
    }

    /** A state as it was once: it needs no more room than the sites of the lattice. */
    private static final class SavedState {
        /** The sites of all paths, one path after the other. */
        private final int[] sites = new int[SITES];
        private final int[] lengths = new int[MOST_PATHS];
        private int pathCount;
        private int stepsMade;
        private int refusals;
        private int turnsMade;

        void take(Board board) {
            int taken = 0;
            pathCount = board.pathCount;
            for (int path = 0; path < pathCount; path++) {
                Trail trail = board.trails[path];
                lengths[path] = trail.length();
                for (int place = 0; place < trail.length() && taken < SITES; place++) {
                    sites[taken] = trail.at(place);
                    taken++;
                }
            }
            stepsMade = board.stepsMade;
            refusals = board.refusals;
            turnsMade = board.turnsMade;
        }

        void putInto(Board board) {
            int taken = 0;
            board.pathCount = pathCount;
            for (int path = 0; path < pathCount; path++) {
                Trail trail = board.trails[path];
                trail.clear();
                for (int place = 0; place < lengths[path] && taken < SITES; place++) {
                    trail.push(sites[taken]);
                    taken++;
                }
            }
            board.stepsMade = stepsMade;
            board.refusals = refusals;
            board.turnsMade = turnsMade;
            board.markSites();
        }
    }

    /** The saved states, in a ring that is made once. */
    private static final class History {
        private final SavedState[] ring = new SavedState[MOST_SAVED];
        private int oldest;
        private int size;

        History() {
            for (int index = 0; index < MOST_SAVED; index++) {
                ring[index] = new SavedState();
            }
        }

        int size() {
            return size;
        }

        void save(Board board) {
            if (size == MOST_SAVED) {
                oldest = (oldest + 1) % MOST_SAVED;
                size--;
            }
            ring[(oldest + size) % MOST_SAVED].take(board);
            size++;
        }

        void restoreLast(Board board) {
            if (size > 0) {
                size--;
                ring[(oldest + size) % MOST_SAVED].putInto(board);
            }
        }
    }

    /** The two snapshot slots. */
    private static final class Snapshots {
        private final SavedState[] slots = new SavedState[SLOTS];
        private final boolean[] taken = new boolean[SLOTS];

        Snapshots() {
            for (int slot = 0; slot < SLOTS; slot++) {
                slots[slot] = new SavedState();
            }
        }

        boolean isTaken(int slot) {
            return taken[slot];
        }

        void take(int slot, Board board) {
            slots[slot].take(board);
            taken[slot] = true;
        }

        void putInto(Board board, int slot) {
            slots[slot].putInto(board);
        }
    }

    /** The buffer and the path text in it. */
    private static final class PathText {
        private static final int HEADING = 4;
        private static final String LETTERS = "URDL";

        private final char[] characters = new char[LONGEST_TEXT];
        private int length;

        int length() {
            return length;
        }

        boolean isFull() {
            return length >= LONGEST_TEXT;
        }

        void clear() {
            length = 0;
        }

        void add(char character) {
            if (!isFull()) {
                characters[length] = character;
                length++;
            }
        }

        int errorIndex() {
            for (int index = 0; index < length; index++) {
                if (!fits(index, characters[index])) {
                    return index;
                }
            }
            return length;
        }

        boolean isComplete() {
            return length >= HEADING && errorIndex() == length;
        }

        private static boolean fits(int index, char character) {
            switch (index) {
                case 0:
                case 2:
                    return character >= '0' && character <= '9';
                case 1:
                    return character == ',';
                case 3:
                    return character == ':';
                default:
                    return LETTERS.indexOf(character) >= 0;
            }
        }

        /** Lays the path of a complete text out on a trail; false where the board has no room for it. */
        boolean layOut(Trail trail, Board board) {
            int site = Lattice.number(characters[0] - '0', characters[2] - '0');
            if (!board.isFree(site)) {
                return false;
            }
            trail.begin(site);
            for (int index = HEADING; index < length; index++) {
                site = Lattice.neighbour(site, LETTERS.indexOf(characters[index]));
                if (!board.isFree(site) || trail.covers(site) || trail.isFull()) {
                    return false;
                }
                trail.push(site);
            }
            return true;
        }

        void tell(Trail trail) {
            clear();
            add((char) ('0' + Lattice.column(trail.tail())));
            add(',');
            add((char) ('0' + Lattice.row(trail.tail())));
            add(':');
            for (int index = 0; index < trail.steps(); index++) {
                add(LETTERS.charAt(trail.stepAt(index)));
            }
        }
    }

    /** Turns of a path about one of its sites. */
    private static final class Turning {
        /** Where each site behind the turned one would be. */
        private final int[] landings = new int[LONGEST];

        int refusal(Board board, int path, int place, int quarters) {
            Trail trail = board.trail(path);
            if (!land(trail, place, quarters)) {
                return OFF_LATTICE;
            }
            int reason = MADE;
            for (int moved = place + 1; moved < trail.length(); moved++) {
                int holder = board.pathAt(landings[moved]);
                if (holder == path && board.placeAt(landings[moved]) <= place) {
                    return ON_ITSELF;
                }
                if (holder != NONE && holder != path) {
                    reason = ON_ANOTHER;
                }
            }
            return reason;
        }

        /** Finds the landings; false where one is not on the lattice. */
        private boolean land(Trail trail, int place, int quarters) {
            int pivot = trail.at(place);
            for (int moved = place + 1; moved < trail.length(); moved++) {
                landings[moved] = swung(trail.at(moved), pivot, quarters);
                if (landings[moved] == NONE) {
                    return false;
                }
            }
            return true;
        }

        private static int swung(int site, int pivot, int quarters) {
            int columns = Lattice.column(site) - Lattice.column(pivot);
            int rows = Lattice.row(site) - Lattice.row(pivot);
            for (int quarter = 0; quarter < quarters; quarter++) {
                int before = columns;
                columns = -rows;
                rows = before;
            }
            return Lattice.number(Lattice.column(pivot) + columns, Lattice.row(pivot) + rows);
        }

        /** Moves the sites to the landings that refusal() found last. */
        void moveSites(Board board, int path, int place) {
            Trail trail = board.trail(path);
            for (int moved = place + 1; moved < trail.length(); moved++) {
                trail.put(moved, landings[moved]);
            }
            board.markSites();
        }

        int possibleTurns(Board board, int path) {
            int turns = 0;
            for (int place = 0; place < board.trail(path).steps(); place++) {
                for (int quarters = 1; quarters <= 3; quarters++) {
                    if (refusal(board, path, place, quarters) == MADE) {
                        turns++;
                    }
                }
            }
            return turns;
        }
    }

    /** Looks ahead along the steps that a head could make. */
    private static final class Scout {
        private final boolean[] taken = new boolean[SITES];

        int rowsOfSteps(Board board, int path, int steps) {
            survey(board);
            return rowsFrom(taken, board.trail(path).head(), steps);
        }

        int bestDirection(Board board, int path) {
            survey(board);
            int head = board.trail(path).head();
            int best = NONE;
            int mostRows = NONE;
            for (int direction = 0; direction < DIRECTIONS; direction++) {
                int rows = rowsThrough(taken, Lattice.neighbour(head, direction), FURTHER_STEPS);
                if (rows > mostRows) {
                    best = direction;
                    mostRows = rows;
                }
            }
            return best;
        }

        private void survey(Board board) {
            for (int site = 0; site < SITES; site++) {
                taken[site] = !board.isFree(site);
            }
        }

        /** It is called for 6 steps at most and each level has one step less, so it goes no deeper. */
        private static int rowsFrom(boolean[] taken, int head, int steps) {
            if (steps <= 0) {
                return 1;
            }
            int rows = 0;
            for (int direction = 0; direction < DIRECTIONS; direction++) {
                rows += Math.max(rowsThrough(taken, Lattice.neighbour(head, direction), steps - 1), 0);
            }
            return rows;
        }

        /** Answers NONE where the site is taken, or none. */
        private static int rowsThrough(boolean[] taken, int site, int steps) {
            if (!Lattice.isSite(site) || taken[site]) {
                return NONE;
            }
            taken[site] = true;
            int rows = rowsFrom(taken, site, steps);
            taken[site] = false;
            return rows;
        }
    }

    /** The regions of free sites. */
    private static final class Regions {
        private final int[] regionAt = new int[SITES];
        private final int[] siteCounts = new int[SITES];
        private final boolean[] chosen = new boolean[SITES];
        private final int[] found = new int[SITES];
        private int size;

        void explore(Board board) {
            Arrays.fill(regionAt, NONE);
            size = 0;
            for (int site = 0; site < SITES; site++) {
                if (isUnseen(board, site)) {
                    siteCounts[size] = flood(board, site);
                    chosen[size] = false;
                    size++;
                }
            }
        }

        private int flood(Board board, int seed) {
            regionAt[seed] = size;
            found[0] = seed;
            int count = 1;
            for (int index = 0; index < count && index < SITES; index++) {
                for (int direction = 0; direction < DIRECTIONS; direction++) {
                    int next = Lattice.neighbour(found[index], direction);
                    // no site is found twice, so the row of found sites has room for all
                    if (isUnseen(board, next) && count < SITES) {
                        regionAt[next] = size;
                        found[count] = next;
                        count++;
                    }
                }
            }
            return count;
        }

        private boolean isUnseen(Board board, int site) {
            return board.isFree(site) && regionAt[site] == NONE;
        }

        int size() {
            return size;
        }

        int greatest() {
            int greatest = 0;
            for (int region = 0; region < size; region++) {
                greatest = Math.max(greatest, siteCounts[region]);
            }
            return greatest;
        }

        /** Chooses the regions that have a neighbour of the site in them. */
        void chooseAround(int site) {
            for (int direction = 0; direction < DIRECTIONS; direction++) {
                int next = Lattice.neighbour(site, direction);
                if (Lattice.isSite(next) && regionAt[next] != NONE) {
                    chosen[regionAt[next]] = true;
                }
            }
        }

        int chosenRegions() {
            int regions = 0;
            for (int region = 0; region < size; region++) {
                if (chosen[region]) {
                    regions++;
                }
            }
            return regions;
        }

        int chosenSites() {
            int sites = 0;
            for (int region = 0; region < size; region++) {
                if (chosen[region]) {
                    sites += siteCounts[region];
                }
            }
            return sites;
        }
    }

    /** The shape of a path: the least of the rows of steps that it has, however it is looked at. */
    private static final class Shape {
        private final int[] fromTail = new int[LONGEST];
        private final int[] fromHead = new int[LONGEST];
        private final int[] view = new int[LONGEST];
        private final int[] least = new int[LONGEST];
        private int steps;

        void find(Trail trail) {
            steps = trail.steps();
            for (int index = 0; index < steps; index++) {
                fromTail[index] = trail.stepAt(index);
                fromHead[index] = turned(trail.stepAt(steps - 1 - index), 2);
            }
            // greater than each row of steps, so that the first one is taken
            Arrays.fill(least, DIRECTIONS);
            for (int quarters = 0; quarters < DIRECTIONS; quarters++) {
                consider(fromTail, quarters, false);
                consider(fromTail, quarters, true);
                consider(fromHead, quarters, false);
                consider(fromHead, quarters, true);
            }
        }

        private void consider(int[] row, int quarters, boolean isMirrored) {
            for (int index = 0; index < steps; index++) {
                int step = isMirrored ? mirrored(row[index]) : row[index];
                view[index] = turned(step, quarters);
            }
            if (isViewLess()) {
                System.arraycopy(view, 0, least, 0, steps);
            }
        }

        private boolean isViewLess() {
            for (int index = 0; index < steps; index++) {
                if (view[index] != least[index]) {
                    return view[index] < least[index];
                }
            }
            return false;
        }

        private static int turned(int direction, int quarters) {
            return (direction + quarters) % DIRECTIONS;
        }

        /** Exchanges left and right. */
        private static int mirrored(int direction) {
            return (DIRECTIONS - direction) % DIRECTIONS;
        }

        int stepAt(int index) {
            return index >= 0 && index < steps ? least[index] : NONE;
        }

        boolean matches(Shape other) {
            if (steps != other.steps) {
                return false;
            }
            for (int index = 0; index < steps; index++) {
                if (least[index] != other.least[index]) {
                    return false;
                }
            }
            return true;
        }
    }
}
