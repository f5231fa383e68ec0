import java.util.ArrayDeque;
import java.util.ArrayList;
import java.util.Arrays;
import java.util.Collections;
import java.util.Deque;
import java.util.HashSet;
import java.util.List;
import java.util.Set;
import java.util.TreeSet;

/**
 * The document told once more, in the plainest way: lists and sets that are searched anew by each call. Nothing of it
 * is taken from the class under test. A call that throws answers the exception's name.
 */
final class Model {
    static final String INDEX = "IndexOutOfBoundsException";
    static final String ARGUMENT = "IllegalArgumentException";
    static final String STATE = "IllegalStateException";

    /** The state, but for the buffer, the saved states and the snapshots. */
    private static final class State {
        final List<List<Integer>> paths = new ArrayList<>();
        int steps;
        int refused;
        int turns;

        State copy() {
            State copy = new State();
            for (List<Integer> path : paths) {
                copy.paths.add(new ArrayList<>(path));
            }
            copy.steps = steps;
            copy.refused = refused;
            copy.turns = turns;
            return copy;
        }
    }

    private State state = new State();
    private final Deque<State> saved = new ArrayDeque<>();
    private final State[] slots = new State[2];
    private String buffer = "";

    /** The answer of the call, or the name of the exception. */
    Object call(String name, int... a) {
        switch (name) {
            case "start": return start(a[0], a[1]);
            case "step": return step(a[0], a[1]);
            case "back": return back(a[0]);
            case "slither": return slither(a[0], a[1]);
            case "turn": return turn(a[0], a[1], a[2]);
            case "reverse": return reverse(a[0]);
            case "join": return join(a[0], a[1]);
            case "split": return split(a[0], a[1]);
            case "remove": return remove(a[0]);
            case "append": return append(a[0]);
            case "clearBuffer": return clearBuffer();
            case "firstError": return firstError();
            case "draw": return draw();
            case "write": return write(a[0]);
            case "undo": return undo();
            case "keep": return keep(a[0]);
            case "goBack": return goBack(a[0]);
            default: return query(name, a);
        }
    }

    private Object query(String name, int... a) {
        switch (name) {
            case "site": return site(a[0], a[1], a[2]);
            case "place": return !has(a[0]) ? INDEX : hasPlace(a[0], a[1]) ? (Object) path(a[0]).get(a[1]) : -1;
            case "path": return !has(a[0]) ? INDEX : a[1] < 0 || a[1] > 8 ? ARGUMENT : pathNumber(path(a[0]), a[1]);
            case "trapped": return trapped();
            case "touching": return !has(a[0]) || !has(a[1]) ? INDEX : a[0] == a[1] ? ARGUMENT : touching(a[0], a[1]);
            case "shape": return shape(a[0], a[1]);
            case "isAlike": return !has(a[0]) || !has(a[1]) ? INDEX : (Object) alike(a[0], a[1]);
            case "free": return a[0] < 0 || a[0] > 3 ? ARGUMENT : (Object) free(a[0]);
            case "ways": return !has(a[0]) ? INDEX : a[1] < 0 || a[1] > 6 ? ARGUMENT : ways(head(path(a[0])), a[1], -1);
            case "bestStep": return !has(a[0]) ? INDEX : (Object) bestStep(a[0]);
            case "reach": return !has(a[0]) ? INDEX : (Object) reachOf(a[0]);
            case "ifTurned": return !hasPlace(a[0], a[1]) ? INDEX : a[2] < 1 || a[2] > 3 ? ARGUMENT : reason(a[0], a[1], a[2]);
            case "turnable": return !has(a[0]) ? INDEX : (Object) turnable(a[0]);
            case "count": return count(a[0]);
            case "spread": return !has(a[0]) ? INDEX : (Object) spread(path(a[0]));
            case "share": return (double) ((float) taken().size() / 100.0f);
            default: throw new AssertionError(name);
        }
    }

    // ---- what is where

    private boolean has(int path) {
        return path >= 0 && path < state.paths.size();
    }

    private boolean hasPlace(int path, int place) {
        return has(path) && place >= 0 && place < path(path).size();
    }

    private List<Integer> path(int path) {
        return state.paths.get(path);
    }

    private static int head(List<Integer> path) {
        return path.get(path.size() - 1);
    }

    private Set<Integer> taken() {
        Set<Integer> taken = new HashSet<>();
        state.paths.forEach(taken::addAll);
        return taken;
    }

    private static int onward(int site, int direction) {
        int row = site / 10 + (direction == 0 ? -1 : direction == 2 ? 1 : 0);
        int column = site % 10 + (direction == 3 ? -1 : direction == 1 ? 1 : 0);
        return row < 0 || row > 9 || column < 0 || column > 9 ? -1 : 10 * row + column;
    }

    private static boolean near(int one, int other) {
        return Math.abs(one / 10 - other / 10) + Math.abs(one % 10 - other % 10) == 1;
    }

    private static int directionTo(int from, int to) {
        for (int direction = 0; direction < 4; direction++) {
            if (onward(from, direction) == to) {
                return direction;
            }
        }
        throw new AssertionError(from + " and " + to + " are no neighbours");
    }

    private static List<Integer> stepsOf(List<Integer> path) {
        List<Integer> steps = new ArrayList<>();
        for (int i = 1; i < path.size(); i++) {
            steps.add(directionTo(path.get(i - 1), path.get(i)));
        }
        return steps;
    }

    private int openings(int site) {
        int set = 0;
        for (int direction = 0; direction < 4; direction++) {
            int next = onward(site, direction);
            if (next >= 0 && !taken().contains(next)) {
                set += 1 << direction;
            }
        }
        return set;
    }

    private void save() {
        saved.addLast(state.copy());
        if (saved.size() > 6) {
            saved.removeFirst();
        }
    }

    // ---- paths

    private Object start(int column, int row) {
        if (column < 0 || column > 9 || row < 0 || row > 9) {
            return INDEX;
        }
        if (taken().contains(10 * row + column) || state.paths.size() == 5) {
            return STATE;
        }
        save();
        state.paths.add(new ArrayList<>(List.of(10 * row + column)));
        return state.paths.size() - 1;
    }

    private int refusal(List<Integer> path, int from, int direction) {
        int target = onward(from, direction);
        if (target < 0) {
            return 1;
        }
        if (path.contains(target)) {
            return 2;
        }
        Set<Integer> others = new HashSet<>();
        for (List<Integer> other : state.paths) {
            if (other != path) {
                others.addAll(other);
            }
        }
        return others.contains(target) ? 3 : path.size() == 60 ? 4 : 0;
    }

    private Object step(int number, int direction) {
        if (!has(number)) {
            return INDEX;
        }
        if (direction < 0 || direction > 3) {
            return ARGUMENT;
        }
        save();
        List<Integer> path = path(number);
        int reason = refusal(path, head(path), direction);
        if (reason == 0) {
            path.add(onward(head(path), direction));
            state.steps++;
        } else {
            state.refused++;
        }
        return reason;
    }

    private Object back(int number) {
        if (!has(number)) {
            return INDEX;
        }
        if (path(number).size() == 1) {
            return STATE;
        }
        save();
        path(number).remove(path(number).size() - 1);
        return path(number).size();
    }

    private Object slither(int number, int direction) {
        if (!has(number)) {
            return INDEX;
        }
        if (direction < 0 || direction > 3) {
            return ARGUMENT;
        }
        save();
        List<Integer> path = path(number);
        int head = head(path);
        int tail = path.remove(0);
        int reason = refusal(path, head, direction);
        if (reason == 0) {
            path.add(onward(head, direction));
            state.steps++;
        } else {
            path.add(0, tail);
            state.refused++;
        }
        return reason;
    }

    /** The column and the row of a site after a turn, which may be off the lattice. */
    private static int[] turned(int site, int pivot, int quarters) {
        int right = site % 10 - pivot % 10;
        int down = site / 10 - pivot / 10;
        int[][] views = {{right, down}, {-down, right}, {-right, -down}, {down, -right}};
        return new int[] {pivot % 10 + views[quarters][0], pivot / 10 + views[quarters][1]};
    }

    private int reason(int number, int place, int quarters) {
        List<Integer> path = path(number);
        Set<Integer> others = taken();
        others.removeAll(path);
        Set<Integer> reasons = new TreeSet<>();
        for (int site : path.subList(place + 1, path.size())) {
            int[] to = turned(site, path.get(place), quarters);
            if (to[0] < 0 || to[0] > 9 || to[1] < 0 || to[1] > 9) {
                reasons.add(1);
            } else if (path.subList(0, place + 1).contains(10 * to[1] + to[0])) {
                reasons.add(2);
            } else if (others.contains(10 * to[1] + to[0])) {
                reasons.add(3);
            }
        }
        return reasons.isEmpty() ? 0 : Collections.min(reasons);
    }

    private Object turn(int number, int place, int quarters) {
        if (!hasPlace(number, place)) {
            return INDEX;
        }
        if (quarters < 1 || quarters > 3) {
            return ARGUMENT;
        }
        save();
        int reason = reason(number, place, quarters);
        if (reason == 0) {
            List<Integer> path = path(number);
            for (int i = place + 1; i < path.size(); i++) {
                int[] to = turned(path.get(i), path.get(place), quarters);
                path.set(i, 10 * to[1] + to[0]);
            }
            state.turns++;
        } else {
            state.refused++;
        }
        return reason;
    }

    private Object reverse(int number) {
        if (!has(number)) {
            return INDEX;
        }
        save();
        Collections.reverse(path(number));
        return head(path(number));
    }

    private Object join(int number, int other) {
        if (!has(number) || !has(other)) {
            return INDEX;
        }
        if (number == other) {
            return ARGUMENT;
        }
        List<Integer> one = path(number);
        List<Integer> two = path(other);
        if (!near(head(one), head(two)) || one.size() + two.size() > 60) {
            return STATE;
        }
        save();
        List<Integer> behind = new ArrayList<>(two);
        Collections.reverse(behind);
        one.addAll(behind);
        state.paths.remove(other);
        return one.size();
    }

    private Object split(int number, int place) {
        if (!hasPlace(number, place) || place == path(number).size() - 1) {
            return INDEX;
        }
        if (state.paths.size() == 5) {
            return STATE;
        }
        save();
        List<Integer> behind = path(number).subList(place + 1, path(number).size());
        state.paths.add(new ArrayList<>(behind));
        behind.clear();
        return state.paths.size() - 1;
    }

    private Object remove(int number) {
        if (!has(number)) {
            return INDEX;
        }
        save();
        state.paths.remove(number);
        return state.paths.size();
    }

    // ---- path text

    private Object append(int code) {
        if (code < 33 || code > 126) {
            return ARGUMENT;
        }
        if (buffer.length() == 70) {
            return STATE;
        }
        buffer += (char) code;
        return buffer.length();
    }

    private Object clearBuffer() {
        int length = buffer.length();
        buffer = "";
        return length;
    }

    private int firstError() {
        for (int length = 1; length <= buffer.length(); length++) {
            if (!buffer.substring(0, length).matches("[0-9](,([0-9](:[URDL]*)?)?)?")) {
                return length - 1;
            }
        }
        return buffer.length();
    }

    private Object draw() {
        if (!buffer.matches("[0-9],[0-9]:[URDL]*")) {
            return ARGUMENT;
        }
        List<Integer> path = new ArrayList<>();
        path.add(10 * (buffer.charAt(2) - '0') + (buffer.charAt(0) - '0'));
        for (char letter : buffer.substring(4).toCharArray()) {
            path.add(head(path) < 0 ? -1 : onward(head(path), "URDL".indexOf(letter)));
        }
        Set<Integer> sites = new HashSet<>(path);
        boolean isCrossing = sites.size() < path.size() || sites.contains(-1) || !Collections.disjoint(sites, taken());
        if (state.paths.size() == 5 || path.size() > 60 || isCrossing) {
            return STATE;
        }
        save();
        buffer = "";
        state.paths.add(path);
        return state.paths.size() - 1;
    }

    private Object write(int number) {
        if (!has(number)) {
            return INDEX;
        }
        List<Integer> path = path(number);
        buffer = path.get(0) % 10 + "," + path.get(0) / 10 + ":";
        for (int step : stepsOf(path)) {
            buffer += "URDL".charAt(step);
        }
        return buffer.length();
    }

    // ---- undo and snapshots

    private Object undo() {
        if (saved.isEmpty()) {
            return STATE;
        }
        state = saved.removeLast();
        return saved.size();
    }

    private Object keep(int slot) {
        if (slot != 0 && slot != 1) {
            return ARGUMENT;
        }
        slots[slot] = state.copy();
        return state.paths.size();
    }

    private Object goBack(int slot) {
        if (slot != 0 && slot != 1) {
            return ARGUMENT;
        }
        if (slots[slot] == null) {
            return STATE;
        }
        save();
        state = slots[slot].copy();
        return state.paths.size();
    }

    // ---- queries about sites and paths

    private Object site(int column, int row, int what) {
        if (column < 0 || column > 9 || row < 0 || row > 9) {
            return INDEX;
        }
        if (what < 0 || what > 2) {
            return ARGUMENT;
        }
        int site = 10 * row + column;
        if (what == 2) {
            return openings(site);
        }
        for (int number = 0; number < state.paths.size(); number++) {
            if (path(number).contains(site)) {
                return what == 0 ? number : path(number).indexOf(site);
            }
        }
        return -1;
    }

    private int pathNumber(List<Integer> path, int what) {
        List<Integer> columns = new ArrayList<>();
        List<Integer> rows = new ArrayList<>();
        for (int site : path) {
            columns.add(site % 10);
            rows.add(site / 10);
        }
        int across = columns.get(0) - columns.get(columns.size() - 1);
        int along = rows.get(0) - rows.get(rows.size() - 1);
        switch (what) {
            case 0: return path.size();
            case 1: return corners(stepsOf(path));
            case 2: return contacts(path);
            case 3: return Collections.max(columns) - Collections.min(columns) + 1;
            case 4: return Collections.max(rows) - Collections.min(rows) + 1;
            case 5: return across * across + along * along;
            case 6: return openings(head(path));
            case 7: return moment(path);
            default: return border(path);
        }
    }

    private static int corners(List<Integer> steps) {
        int corners = 0;
        for (int i = 1; i < steps.size(); i++) {
            corners += steps.get(i).equals(steps.get(i - 1)) ? 0 : 1;
        }
        return corners;
    }

    private static int contacts(List<Integer> path) {
        int contacts = 0;
        for (int i = 0; i < path.size(); i++) {
            for (int j = i + 2; j < path.size(); j++) {
                contacts += near(path.get(i), path.get(j)) ? 1 : 0;
            }
        }
        return contacts;
    }

    /** The squared distances of all pairs of sites, together, are the moment. */
    private static int moment(List<Integer> path) {
        int moment = 0;
        for (int i = 0; i < path.size(); i++) {
            for (int j = 0; j < i; j++) {
                int across = path.get(i) % 10 - path.get(j) % 10;
                int along = path.get(i) / 10 - path.get(j) / 10;
                moment += across * across + along * along;
            }
        }
        return moment;
    }

    private int border(List<Integer> path) {
        Set<Integer> border = new HashSet<>();
        for (int site : path) {
            for (int direction = 0; direction < 4; direction++) {
                border.add(onward(site, direction));
            }
        }
        border.remove(-1);
        border.removeAll(taken());
        return border.size();
    }

    private int trapped() {
        int mask = 0;
        for (int number = 0; number < state.paths.size(); number++) {
            mask += openings(head(path(number))) == 0 ? 1 << number : 0;
        }
        return mask;
    }

    private int touching(int number, int other) {
        int pairs = 0;
        for (int one : path(number)) {
            for (int two : path(other)) {
                pairs += near(one, two) ? 1 : 0;
            }
        }
        return pairs;
    }

    private static String shapeOf(List<Integer> path) {
        List<Integer> reversed = new ArrayList<>(path);
        Collections.reverse(reversed);
        Set<String> views = new TreeSet<>();
        for (List<Integer> sites : Arrays.asList(path, reversed)) {
            for (String names : new String[] {"0123", "1230", "2301", "3012", "0321", "3210", "2103", "1032"}) {
                StringBuilder view = new StringBuilder();
                for (int step : stepsOf(sites)) {
                    view.append(names.charAt(step));
                }
                views.add(view.toString());
            }
        }
        return views.iterator().next();
    }

    private Object shape(int number, int index) {
        if (!has(number)) {
            return INDEX;
        }
        if (index < 0) {
            return ARGUMENT;
        }
        String shape = shapeOf(path(number));
        return index < shape.length() ? shape.charAt(index) - '0' : -1;
    }

    private int alike(int number, int other) {
        return shapeOf(path(number)).equals(shapeOf(path(other))) ? 1 : 0;
    }

    // ---- regions and what would be

    /** The region of each free site, told by its least site. */
    private int[] regions() {
        Set<Integer> taken = taken();
        int[] regions = new int[100];
        for (int site = 0; site < 100; site++) {
            regions[site] = taken.contains(site) ? -1 : site;
        }
        boolean isChanged = true;
        while (isChanged) {
            isChanged = false;
            for (int site = 0; site < 100; site++) {
                for (int direction = 0; direction < 4; direction++) {
                    int next = onward(site, direction);
                    if (regions[site] >= 0 && next >= 0 && regions[next] > regions[site]) {
                        regions[next] = regions[site];
                        isChanged = true;
                    }
                }
            }
        }
        return regions;
    }

    private Set<Integer> regionsAround(int site, int[] regions) {
        Set<Integer> around = new HashSet<>();
        for (int direction = 0; direction < 4; direction++) {
            int next = onward(site, direction);
            if (next >= 0 && regions[next] >= 0) {
                around.add(regions[next]);
            }
        }
        return around;
    }

    private int free(int what) {
        int[] regions = regions();
        int[] sizes = new int[100];
        Set<Integer> names = new HashSet<>();
        Set<Integer> atHeads = new HashSet<>();
        for (int region : regions) {
            if (region >= 0) {
                sizes[region]++;
                names.add(region);
            }
        }
        for (List<Integer> path : state.paths) {
            atHeads.addAll(regionsAround(head(path), regions));
        }
        switch (what) {
            case 0: return Arrays.stream(sizes).sum();
            case 1: return names.size();
            case 2: return Arrays.stream(sizes).max().getAsInt();
            default: return atHeads.size();
        }
    }

    private int reachOf(int number) {
        int[] regions = regions();
        Set<Integer> around = regionsAround(head(path(number)), regions);
        return (int) Arrays.stream(regions).filter(around::contains).count();
    }

    /** Tries every row of so many steps from a site on; a site that is marked already may not be come to either. */
    private int ways(int head, int steps, int marked) {
        Set<Integer> taken = taken();
        int ways = 0;
        for (int row = 0; row < 1 << 2 * steps; row++) {
            Set<Integer> walked = new HashSet<>(taken);
            walked.add(marked);
            int site = head;
            for (int i = 0; i < steps && site >= 0; i++) {
                int next = onward(site, row >> 2 * i & 3);
                site = next >= 0 && walked.add(next) ? next : -1;
            }
            ways += site >= 0 ? 1 : 0;
        }
        return ways;
    }

    private int bestStep(int number) {
        int best = -1;
        int most = -1;
        for (int direction = 0; direction < 4; direction++) {
            int next = onward(head(path(number)), direction);
            if (next >= 0 && !taken().contains(next) && ways(next, 4, next) > most) {
                best = direction;
                most = ways(next, 4, next);
            }
        }
        return best;
    }

    private int turnable(int number) {
        int turns = 0;
        for (int place = 0; place < path(number).size() - 1; place++) {
            for (int quarters = 1; quarters <= 3; quarters++) {
                turns += reason(number, place, quarters) == 0 ? 1 : 0;
            }
        }
        return turns;
    }

    private Object count(int what) {
        switch (what) {
            case 0: return state.paths.size();
            case 1: return taken().size();
            case 2: return state.steps;
            case 3: return state.refused;
            case 4: return state.turns;
            case 5: return saved.size();
            case 6: return buffer.length();
            default: return ARGUMENT;
        }
    }

    private static double spread(List<Integer> path) {
        return (double) moment(path) / ((double) path.size() * (double) path.size());
    }
}
