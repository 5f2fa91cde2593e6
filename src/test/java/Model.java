import java.util.ArrayDeque;
import java.util.ArrayList;
import java.util.Comparator;
import java.util.Deque;
import java.util.List;
import java.util.Map;
import java.util.TreeMap;
import java.util.regex.Matcher;
import java.util.regex.Pattern;

/**
 * The document once more, in another way than the program's: every block of room is a thing of its
 * own that is backed by somebody, nothing is counted in advance, and what would be is found by trying.
 */
final class Model {
    private static final Pattern DEVICE = Pattern.compile("D(s([0-5]\\d|60)(0[1-9]|[1-5]\\d|60)"
        + "|[wt][0-4][0-3]\\d|f[0-4]([0-5]\\d|60)|r[0-4][0-3]\\d[0-3]\\d)*");
    private static final int COMMON = -1;

    /** A space: its blocks are told by who backs each, itself, COMMON or a lender. */
    private static final class Space {
        int floor;
        int ceiling;
        int recalls;
        int lost;
        int refused;
        final List<Integer> backing = new ArrayList<>();
        final Map<Integer, Integer> times = new TreeMap<>();

        Space copy() {
            Space other = new Space();
            other.floor = floor;
            other.ceiling = ceiling;
            other.recalls = recalls;
            other.lost = lost;
            other.refused = refused;
            other.backing.addAll(backing);
            other.times.putAll(times);
            return other;
        }

        int backedBy(int who) {
            int count = 0;
            for (int backer : backing) {
                count += backer == who ? 1 : 0;
            }
            return count;
        }
    }

    private static final class State {
        final List<Space> spaces = new ArrayList<>();
        int clock;

        State copy() {
            State other = new State();
            spaces.forEach(space -> other.spaces.add(space.copy()));
            other.clock = clock;
            return other;
        }
    }

    private String text = "";
    private State now = new State();
    private final Deque<State> before = new ArrayDeque<>();
    private final State[] slots = new State[2];

    // ---- text

    int append(int c) {
        argument(c >= 0 && c <= 255);
        state(text.length() < 120);
        text += (char) c;
        return text.length();
    }

    int clearText() {
        int length = text.length();
        text = "";
        return length;
    }

    int errorPosition() {
        if (DEVICE.matcher(text).matches()) {
            return -1;
        }
        int length = 0;
        while (length < text.length() && canBegin(text.substring(0, length + 1))) {
            length++;
        }
        return length;
    }

    private static boolean canBegin(String part) {
        Matcher matcher = DEVICE.matcher(part);
        return matcher.matches() || matcher.hitEnd();
    }

    int load() {
        state(DEVICE.matcher(text).matches());
        now = new State();
        before.clear();
        slots[0] = null;
        slots[1] = null;
        int leftOut = 0;
        Matcher commands = Pattern.compile("([swtfr])(\\d+)").matcher(text);
        while (commands.find()) {
            leftOut += command(commands.group(1), commands.group(2)) ? 0 : 1;
        }
        before.clear();
        return leftOut;
    }

    private boolean command(String letter, String digits) {
        int[] n = new int[digits.length()];
        for (int i = 0; i < n.length; i++) {
            n[i] = digits.charAt(i) - '0';
        }
        try {
            switch (letter) {
                case "s" -> make(10 * n[0] + n[1], 10 * n[2] + n[3]);
                case "w" -> write(n[0], 10 * n[1] + n[2]);
                case "t" -> trim(n[0], 10 * n[1] + n[2]);
                case "f" -> setFloor(n[0], 10 * n[1] + n[2]);
                default -> {
                    for (int page = 10 * n[1] + n[2]; page <= 10 * n[3] + n[4]; page++) {
                        write(n[0], page);
                    }
                }
            }
        } catch (RuntimeException e) {
            return false;
        }
        return true;
    }

    // ---- what there is

    int about(int what) {
        argument(what >= 0 && what <= 8);
        switch (what) {
            case 0: return now.spaces.size();
            case 1: return total(2);
            case 2: return 60 - total(0);
            case 3: return 60 - total(0) - total(4);
            case 4: return total(5);
            case 5: return now.clock;
            default: return total(what + 2);
        }
    }

    private int total(int what) {
        int all = 0;
        for (int s = 0; s < now.spaces.size(); s++) {
            all += space(s, what);
        }
        return all;
    }

    int space(int s, int what) {
        Space space = at(s);
        argument(what >= 0 && what <= 10);
        int[] numbers = {space.floor, space.ceiling, space.times.size(), space.backedBy(s), space.backedBy(COMMON),
            space.backing.size() - space.backedBy(s) - space.backedBy(COMMON), lends(s), idle(s),
            space.recalls, space.lost, space.refused};
        return numbers[what];
    }

    private int lends(int s) {
        int all = 0;
        for (int other = 0; other < now.spaces.size(); other++) {
            all += other == s ? 0 : at(other).backedBy(s);
        }
        return all;
    }

    private int idle(int s) {
        return at(s).floor - at(s).backedBy(s) - lends(s);
    }

    int loans(int s, int lender) {
        at(s);
        at(lender);
        return s == lender ? 0 : at(s).backedBy(lender);
    }

    int time(int s, int page) {
        index(page >= 0 && page < 40 && at(s) != null);
        return at(s).times.getOrDefault(page, -1);
    }

    int oldest(int s, int i) {
        List<Integer> pages = pagesByTime(s);
        argument(i >= 0);
        return i < pages.size() ? pages.get(i) : -1;
    }

    private List<Integer> pagesByTime(int s) {
        List<Integer> pages = new ArrayList<>(at(s).times.keySet());
        pages.sort(Comparator.comparing(at(s).times::get));
        return pages;
    }

    // ---- actions

    private void action() {
        before.push(now.copy());
        if (before.size() > 14) {
            before.removeLast();
        }
    }

    int make(int floor, int ceiling) {
        argument(floor >= 0 && floor <= 60 && ceiling >= Math.max(1, floor) && ceiling <= 60);
        state(now.spaces.size() < 5 && floor <= about(3));
        action();
        Space made = new Space();
        made.floor = floor;
        made.ceiling = ceiling;
        now.spaces.add(made);
        return now.spaces.size() - 1;
    }

    int write(int s, int page) {
        index(page >= 0 && page < 40 && at(s) != null);
        action();
        return put(s, page);
    }

    /** As write, for any page number: what would be asks for more pages than there are. */
    private int put(int s, int page) {
        Space space = at(s);
        int way = 0;
        if (!space.times.containsKey(page)) {
            way = space.times.size() >= space.ceiling ? 5 : back(s);
        }
        if (way == 5) {
            space.refused++;
        } else {
            space.times.put(page, ++now.clock);
        }
        return way;
    }

    private int back(int s) {
        Space space = at(s);
        if (space.backedBy(s) < space.floor) {
            int way = idle(s) > 0 ? 1 : 2;
            if (way == 2) {
                recall(s);
            }
            space.backing.add(s);
            return way;
        }
        if (about(3) > 0) {
            space.backing.add(COMMON);
            return 3;
        }
        int lender = idlest(s, s);
        if (lender < 0) {
            return 5;
        }
        space.backing.add(lender);
        return 4;
    }

    private void recall(int s) {
        int borrower = s == 0 ? 1 : 0;
        for (int other = 0; other < now.spaces.size(); other++) {
            if (other != s && loans(other, s) > loans(borrower, s)) {
                borrower = other;
            }
        }
        Space pays = at(borrower);
        pays.backing.remove((Integer) s);
        at(s).recalls++;
        int other = idlest(s, borrower);
        if (idle(borrower) > 0) {
            pays.backing.add(borrower);
        } else if (about(3) > 0) {
            pays.backing.add(COMMON);
        } else if (other >= 0) {
            pays.backing.add(other);
        } else {
            pays.times.remove(pagesByTime(borrower).get(0));
            pays.lost++;
        }
    }

    private int idlest(int one, int another) {
        int best = -1;
        for (int s = now.spaces.size() - 1; s >= 0; s--) {
            if (s != one && s != another && idle(s) > 0 && (best < 0 || idle(s) >= idle(best))) {
                best = s;
            }
        }
        return best;
    }

    int trim(int s, int page) {
        index(page >= 0 && page < 40 && at(s) != null);
        Space space = at(s);
        state(space.times.containsKey(page));
        action();
        space = at(s);
        space.times.remove(page);
        int lender = -1;
        for (int other = 0; other < now.spaces.size(); other++) {
            if (loans(s, other) > (lender < 0 ? 0 : loans(s, lender))) {
                lender = other;
            }
        }
        Integer ends = lender >= 0 ? lender : space.backing.contains(COMMON) ? COMMON : s;
        space.backing.remove(ends);
        return space.times.size();
    }

    int setFloor(int s, int floor) {
        int previous = at(s).floor;
        argument(floor >= 0 && floor <= 60);
        at(s).floor = floor;
        boolean possible = total(0) <= 60 && about(3) >= 0 && idle(s) >= 0 && floor <= at(s).ceiling;
        at(s).floor = previous;
        state(possible);
        action();
        at(s).floor = floor;
        return previous;
    }

    int setCeiling(int s, int ceiling) {
        int previous = at(s).ceiling;
        argument(ceiling >= 1 && ceiling <= 60 && ceiling >= at(s).floor);
        action();
        at(s).ceiling = ceiling;
        return previous;
    }

    int undo() {
        state(!before.isEmpty());
        now = before.pop();
        return before.size();
    }

    // ---- what would be

    private interface Trial {
        int answer(Model copy);
    }

    private int onCopy(Trial trial) {
        Model copy = new Model();
        copy.now = now.copy();
        return trial.answer(copy);
    }

    int would(int s, int page) {
        return onCopy(copy -> copy.write(s, page));
    }

    int room(int s) {
        at(s);
        return onCopy(copy -> {
            int page = 100;
            while (copy.put(s, page) != 5) {
                page++;
            }
            return page - 100;
        });
    }

    int harm(int s, int n) {
        at(s);
        argument(n >= 0 && n <= 60);
        return onCopy(copy -> {
            for (int k = 0; k < n; k++) {
                copy.put(s, 100 + k);
            }
            return copy.total(9);
        }) - total(9);
    }

    int victim(int s) {
        at(s);
        return onCopy(copy -> {
            for (int k = 0; k < 60; k++) {
                copy.put(s, 100 + k);
                for (int other = 0; other < now.spaces.size(); other++) {
                    if (copy.space(other, 9) != space(other, 9)) {
                        return other;
                    }
                }
            }
            return -1;
        });
    }

    int noisy() {
        int best = -1;
        for (int s = now.spaces.size() - 1; s >= 0; s--) {
            if (best < 0 || space(s, 8) - 2 * space(s, 9) >= space(best, 8) - 2 * space(best, 9)) {
                best = s;
            }
        }
        return best;
    }

    private boolean takesFloor(int s, int floor) {
        return onCopy(copy -> {
            try {
                copy.setFloor(s, floor);
                return 1;
            } catch (IllegalStateException e) {
                return 0;
            }
        }) == 1;
    }

    int mostFloor(int s) {
        at(s);
        int floor = 60;
        while (!takesFloor(s, floor)) {
            floor--;
        }
        return floor;
    }

    int leastFloor(int s) {
        at(s);
        int floor = 0;
        while (!takesFloor(s, floor)) {
            floor++;
        }
        return floor;
    }

    // ---- scripts, simulations

    int runScript(int n, long script) {
        argument(n >= 1 && n <= 3);
        argument(script >= 0 && String.valueOf(script).length() <= 5 * n);
        String digits = "0".repeat(5 * n - String.valueOf(script).length()) + script;
        return onCopy(copy -> {
            for (int i = 0; i < n; i++) {
                boolean done;
                try {
                    done = copy.group(digits.substring(5 * i, 5 * i + 5));
                } catch (RuntimeException e) {
                    done = false;
                }
                if (!done) {
                    return i;
                }
            }
            return -1;
        });
    }

    private boolean group(String d) {
        int s = d.charAt(1) - '0';
        int n = Integer.parseInt(d.substring(3));
        if (d.matches("1.0..")) {
            return write(s, n) != 5;
        }
        if (d.matches("2.0..")) {
            return trim(s, n) >= 0;
        }
        if (d.matches("3.0..")) {
            return setFloor(s, n) >= 0;
        }
        if (d.matches("4.0..")) {
            return setCeiling(s, n) >= 0;
        }
        if (d.matches("5....")) {
            return make(Integer.parseInt(d.substring(1, 3)), n) >= 0;
        }
        if (d.matches("6.0..")) {
            return space(s, 2) >= n;
        }
        if (d.matches("7.0..")) {
            return room(s) >= n;
        }
        if (d.matches("800..")) {
            return about(7) <= n;
        }
        return d.matches("9....") && loans(s, d.charAt(2) - '0') >= n;
    }

    int simulate(long seed, int m) {
        argument(m >= 1 && m <= 99);
        return onCopy(copy -> {
            long x = seed;
            for (int k = 0; k < m; k++) {
                x = x * 6364136223846793005L + 1442695040888963407L;
                copy.turn((int) (x >>> 33));
            }
            return 1000 * copy.about(1) + copy.about(7);
        }) - about(7);
    }

    private void turn(int r) {
        int s = r / 16 % Math.max(1, now.spaces.size());
        int p = r / 128 % 40;
        try {
            switch (r % 16) {
                case 0 -> make(r / 16 % 16, 16 + r / 256 % 40);
                case 1 -> setFloor(s, r / 128 % 20);
                case 2, 3 -> trim(s, p);
                default -> write(s, p);
            }
        } catch (RuntimeException e) {
            return;
        }
    }

    // ---- save slots

    int save(int slot) {
        index(slot == 0 || slot == 1);
        slots[slot] = now.copy();
        return about(1);
    }

    int restore(int slot) {
        index(slot == 0 || slot == 1);
        state(slots[slot] != null);
        now = slots[slot].copy();
        before.clear();
        return about(1);
    }

    private Space at(int s) {
        index(s >= 0 && s < now.spaces.size());
        return now.spaces.get(s);
    }

    private static void index(boolean fine) {
        if (!fine) {
            throw new IndexOutOfBoundsException();
        }
    }

    private static void argument(boolean fine) {
        if (!fine) {
            throw new IllegalArgumentException();
        }
    }

    private static void state(boolean fine) {
        if (!fine) {
            throw new IllegalStateException();
        }
    }
}
