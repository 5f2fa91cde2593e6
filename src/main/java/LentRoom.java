/**
 * Spaces cut out of one device, which lend unused room to each other above a floor.
 * The device's rules stand in Device, the text's grammar in Text, the remembered states in History.
 */
public final class LentRoom {
    public static final int NONE = -1;

    private static final int BLOCKS = 60;
    private static final int MOST_SPACES = 5;
    private static final int PAGES = 40;
    private static final int MOST_SIGNS = 120;
    private static final int MOST_REMEMBERED = 14;
    private static final int SLOTS = 2;
    private static final int MOST_COMMANDS = 3;
    private static final int MOST_TURNS = 99;
    private static final int GROUP = 100000;

    private static final int REWRITTEN = 0;
    private static final int BY_OWN_FLOOR = 1;
    private static final int BY_RECALL = 2;
    private static final int BY_COMMON_ROOM = 3;
    private static final int BY_LOAN = 4;
    private static final int REFUSED = 5;

    private final Text text = new Text();
    private final Device device = new Device();
    private final History history = new History();
    private final Device[] slots = new Device[SLOTS];
    private final boolean[] filled = new boolean[SLOTS];

    // Made once and used again, since whatever a run makes stays in the room of its calls.
    private final Device blank = new Device();
    private final Device trial = new Device();
    private final Device guess = new Device();

    public LentRoom() {
        for (int slot = 0; slot < SLOTS; slot++) {
            slots[slot] = new Device();
        }
    }

    // ---- text

    public int append(int c) throws IllegalArgumentException, IllegalStateException {
        if (c < 0 || c > 255) {
            throw new IllegalArgumentException("no character code");
        }
        if (text.isFull()) {
            throw new IllegalStateException("the text is full");
        }
        return text.add((char) c);
    }

    public int clearText() {
        return text.empty();
    }

    public int errorPosition() {
        return text.firstError();
    }

    public int load() throws IllegalStateException {
        if (text.firstError() != NONE) {
            throw new IllegalStateException("the text is not a device");
        }
        device.become(blank);
        history.forgetAll();
        for (int slot = 0; slot < SLOTS; slot++) {
            filled[slot] = false;
        }
        int leftOut = 0;
        // Each letter behind the first one begins a command; the digits between belong to it.
        for (int at = 1; at < text.length; at++) {
            if (!text.isDigit(at) && !obeyText(at)) {
                leftOut++;
            }
        }
        return leftOut;
    }

    /** Does the command of the text whose letter stands there; false if it is left out. */
    private boolean obeyText(int at) {
        int s = text.number(at + 1, 1);
        int number = text.number(at + 2, 2);
        switch (text.sign(at)) {
            case 's':
                return device.addSpace(text.number(at + 1, 2), text.number(at + 3, 2)) != NONE;
            case 'w':
                return device.putPage(s, number) != NONE;
            case 't':
                return device.dropPage(s, number);
            case 'f':
                return device.changeFloor(s, number);
            default:
                int last = text.number(at + 4, 2);
                boolean done = true;
                for (int page = number; page <= last; page++) {
                    done = device.putPage(s, page) != NONE;
                }
                return done;
        }
    }

    // ---- what there is

    public int about(int what) throws IllegalArgumentException {
        if (what < 0 || what > 8) {
            throw new IllegalArgumentException("no such number");
        }
        return device.numberOfAll(what);
    }

    public int space(int s, int what) throws IndexOutOfBoundsException, IllegalArgumentException {
        needSpace(s);
        if (what < 0 || what > 10) {
            throw new IllegalArgumentException("no such number");
        }
        return what < 8 ? device.sizeOf(s, what) : device.countOf(s, what);
    }

    public int loans(int s, int lender) throws IndexOutOfBoundsException {
        needSpace(s);
        needSpace(lender);
        return device.loan[s][lender];
    }

    public int time(int s, int page) throws IndexOutOfBoundsException {
        needPage(s, page);
        return device.isWritten(s, page) ? device.written[s][page] : NONE;
    }

    public int oldest(int s, int i) throws IndexOutOfBoundsException, IllegalArgumentException {
        needSpace(s);
        if (i < 0) {
            throw new IllegalArgumentException("no such place in the order");
        }
        return device.pageByAge(s, i);
    }

    // ---- actions

    public int make(int floor, int ceiling) throws IllegalArgumentException, IllegalStateException {
        if (!device.areBounds(floor, ceiling)) {
            throw new IllegalArgumentException("floor or ceiling out of range");
        }
        if (!device.hasRoomForSpace(floor)) {
            throw new IllegalStateException("no more spaces, or too little common room");
        }
        history.remember(device);
        return device.addSpace(floor, ceiling);
    }

    public int write(int s, int page) throws IndexOutOfBoundsException {
        needPage(s, page);
        history.remember(device);
        return device.putPage(s, page);
    }

    public int trim(int s, int page) throws IndexOutOfBoundsException, IllegalStateException {
        needPage(s, page);
        if (!device.isWritten(s, page)) {
            throw new IllegalStateException("the page is not written");
        }
        history.remember(device);
        device.dropPage(s, page);
        return device.pagesOf(s);
    }

    public int setFloor(int s, int floor)
            throws IndexOutOfBoundsException, IllegalArgumentException, IllegalStateException {
        needSpace(s);
        if (floor < 0 || floor > BLOCKS) {
            throw new IllegalArgumentException("floor out of range");
        }
        if (!device.takesFloor(s, floor)) {
            throw new IllegalStateException("the floor is not possible");
        }
        history.remember(device);
        int previous = device.floor[s];
        device.changeFloor(s, floor);
        return previous;
    }

    public int setCeiling(int s, int ceiling) throws IndexOutOfBoundsException, IllegalArgumentException {
        needSpace(s);
        if (!device.takesCeiling(s, ceiling)) {
            throw new IllegalArgumentException("ceiling out of range, or less than the floor");
        }
        history.remember(device);
        int previous = device.ceiling[s];
        device.changeCeiling(s, ceiling);
        return previous;
    }

    public int undo() throws IllegalStateException {
        if (history.isEmpty()) {
            throw new IllegalStateException("no state is remembered");
        }
        return history.takeBack(device);
    }

    // ---- what would be; these and all following methods up to the save slots change nothing

    public int would(int s, int page) throws IndexOutOfBoundsException {
        needPage(s, page);
        guess.become(device);
        return guess.putPage(s, page);
    }

    public int room(int s) throws IndexOutOfBoundsException {
        needSpace(s);
        return growGuess(device, s, BLOCKS);
    }

    public int harm(int s, int n) throws IndexOutOfBoundsException, IllegalArgumentException {
        needSpace(s);
        if (n < 0 || n > BLOCKS) {
            throw new IllegalArgumentException("number of pages out of range");
        }
        growGuess(device, s, n);
        return guess.lostByAll() - device.lostByAll();
    }

    public int victim(int s) throws IndexOutOfBoundsException {
        needSpace(s);
        guess.become(device);
        int loser = NONE;
        for (int n = 0; n < BLOCKS && loser == NONE; n++) {
            if (guess.takeBlock(s) == REFUSED) {
                return NONE;
            }
            loser = guess.firstLoserSince(device);
        }
        return loser;
    }

    public int noisy() {
        int found = NONE;
        for (int s = 0; s < device.spaces; s++) {
            if (found == NONE || device.noiseOf(s) > device.noiseOf(found)) {
                found = s;
            }
        }
        return found;
    }

    public int mostFloor(int s) throws IndexOutOfBoundsException {
        needSpace(s);
        return device.greatestFloor(s);
    }

    public int leastFloor(int s) throws IndexOutOfBoundsException {
        needSpace(s);
        return device.smallestFloor(s);
    }

    /**
     * Lets the guess, as a copy of that device, take blocks for new pages of a space, up to n;
     * returns how many it got. Blocks alone are taken, as the pages may be more than there are.
     */
    private int growGuess(Device from, int s, int n) {
        guess.become(from);
        int got = 0;
        while (got < n && guess.takeBlock(s) != REFUSED) {
            got++;
        }
        return got;
    }

    // ---- scripts, simulations

    public int runScript(int n, long script) throws IllegalArgumentException {
        if (n < 1 || n > MOST_COMMANDS) {
            throw new IllegalArgumentException("number of commands out of range");
        }
        if (script < 0 || withoutGroups(script, n) != 0) {
            throw new IllegalArgumentException("no script of so many commands");
        }
        trial.become(device);
        for (int i = 0; i < n; i++) {
            int group = (int) (withoutGroups(script, n - 1 - i) % GROUP);
            if (!obeyGroup(group)) {
                return i;
            }
        }
        return NONE;
    }

    private static long withoutGroups(long script, int groups) {
        long rest = script;
        for (int k = 0; k < groups; k++) {
            rest /= GROUP;
        }
        return rest;
    }

    /** Does a command of a script on the trial; false if it fails. */
    private boolean obeyGroup(int group) {
        int kind = group / 10000;
        int s = group / 1000 % 10;
        int third = group / 100 % 10;
        int number = group % 100;
        if (kind == 5) {
            return trial.addSpace(group / 100 % 100, number) != NONE;
        }
        if (kind == 9) {
            return trial.hasSpace(s) && trial.hasSpace(third) && trial.loan[s][third] >= number;
        }
        if (third != 0) {
            return false;
        }
        if (kind == 8) {
            return s == 0 && trial.lostByAll() <= number;
        }
        return trial.hasSpace(s) && obeyForSpace(kind, s, number);
    }

    private boolean obeyForSpace(int kind, int s, int number) {
        switch (kind) {
            case 1:
                int way = trial.putPage(s, number);
                return way != NONE && way != REFUSED;
            case 2:
                return trial.dropPage(s, number);
            case 3:
                return trial.changeFloor(s, number);
            case 4:
                return trial.changeCeiling(s, number);
            case 6:
                return trial.pagesOf(s) >= number;
            case 7:
                return growGuess(trial, s, BLOCKS) >= number;
            default:
                return false;
        }
    }

    public int simulate(long seed, int m) throws IllegalArgumentException {
        if (m < 1 || m > MOST_TURNS) {
            throw new IllegalArgumentException("number of turns out of range");
        }
        trial.become(device);
        long x = seed;
        for (int turn = 0; turn < m; turn++) {
            x = x * 6364136223846793005L + 1442695040888963407L;
            takeTurn((int) (x >>> 33));
        }
        return 1000 * trial.pagesOfAll() + trial.lostByAll() - device.lostByAll();
    }

    private void takeTurn(int r) {
        int s = r / 16 % Math.max(1, trial.spaces);
        int page = r / 128 % PAGES;
        int kind = r % 16;
        if (kind == 0) {
            trial.addSpace(r / 16 % 16, 16 + r / 256 % 40);
        } else if (kind == 1) {
            trial.changeFloor(s, r / 128 % 20);
        } else if (kind < 4) {
            trial.dropPage(s, page);
        } else {
            trial.putPage(s, page);
        }
    }

    // ---- save slots

    public int save(int slot) throws IndexOutOfBoundsException {
        needSlot(slot);
        slots[slot].become(device);
        filled[slot] = true;
        return device.pagesOfAll();
    }

    public int restore(int slot) throws IndexOutOfBoundsException, IllegalStateException {
        needSlot(slot);
        if (!filled[slot]) {
            throw new IllegalStateException("nothing has been saved in the slot");
        }
        device.become(slots[slot]);
        history.forgetAll();
        return device.pagesOfAll();
    }

    private void needSpace(int s) {
        if (!device.hasSpace(s)) {
            throw new IndexOutOfBoundsException("no such space");
        }
    }

    private void needPage(int s, int page) {
        if (!device.hasPage(s, page)) {
            throw new IndexOutOfBoundsException("no such space or page");
        }
    }

    private static void needSlot(int slot) {
        if (slot < 0 || slot >= SLOTS) {
            throw new IndexOutOfBoundsException("no such save slot");
        }
    }

    /**
     * The state. Its own commands leave everything as it is where the face would throw,
     * so that texts, scripts and simulations can leave a command out without an exception.
     */
    private static final class Device {
        int spaces;
        int clock;
        final int[] floor = new int[MOST_SPACES];
        final int[] ceiling = new int[MOST_SPACES];
        final int[] own = new int[MOST_SPACES];
        final int[] common = new int[MOST_SPACES];
        /** By borrower and lender. */
        final int[][] loan = new int[MOST_SPACES][MOST_SPACES];
        /** By space and page the time of its last write; 0, which no write has, if it is not written. */
        final int[][] written = new int[MOST_SPACES][PAGES];
        final int[] recalls = new int[MOST_SPACES];
        final int[] lost = new int[MOST_SPACES];
        final int[] refused = new int[MOST_SPACES];

        void become(Device other) {
            spaces = other.spaces;
            clock = other.clock;
            copyRow(other.floor, floor);
            copyRow(other.ceiling, ceiling);
            copyRow(other.own, own);
            copyRow(other.common, common);
            copyRow(other.recalls, recalls);
            copyRow(other.lost, lost);
            copyRow(other.refused, refused);
            for (int s = 0; s < MOST_SPACES; s++) {
                copyRow(other.loan[s], loan[s]);
                copyRow(other.written[s], written[s]);
            }
        }

        private static void copyRow(int[] from, int[] to) {
            System.arraycopy(from, 0, to, 0, Math.min(from.length, to.length));
        }

        private static int sum(int[] row) {
            int all = 0;
            for (int number : row) {
                all += number;
            }
            return all;
        }

        // what there is

        boolean hasSpace(int s) {
            return s >= 0 && s < spaces;
        }

        boolean hasPage(int s, int page) {
            return hasSpace(s) && page >= 0 && page < PAGES;
        }

        boolean isWritten(int s, int page) {
            return hasPage(s, page) && written[s][page] > 0;
        }

        /** Counted by what backs them, so that it holds for pages above the last one too. */
        int pagesOf(int s) {
            return own[s] + common[s] + sum(loan[s]);
        }

        int pagesOfAll() {
            int all = 0;
            for (int s = 0; s < spaces; s++) {
                all += pagesOf(s);
            }
            return all;
        }

        int idleOf(int s) {
            int idle = floor[s] - own[s];
            for (int borrower = 0; borrower < MOST_SPACES; borrower++) {
                idle -= loan[borrower][s];
            }
            return idle;
        }

        int lendsOf(int s) {
            return floor[s] - own[s] - idleOf(s);
        }

        int commonRoom() {
            return BLOCKS - sum(floor);
        }

        int freeCommonRoom() {
            return BLOCKS - sum(floor) - sum(common);
        }

        int loansOfAll() {
            int all = 0;
            for (int s = 0; s < spaces; s++) {
                all += sum(loan[s]);
            }
            return all;
        }

        int lostByAll() {
            return sum(lost);
        }

        int noiseOf(int s) {
            return recalls[s] - 2 * lost[s];
        }

        int firstLoserSince(Device earlier) {
            for (int s = 0; s < spaces; s++) {
                if (lost[s] > earlier.lost[s]) {
                    return s;
                }
            }
            return NONE;
        }

        int numberOfAll(int what) {
            switch (what) {
                case 0:
                    return spaces;
                case 1:
                    return pagesOfAll();
                case 2:
                    return commonRoom();
                case 3:
                    return freeCommonRoom();
                case 4:
                    return loansOfAll();
                case 5:
                    return clock;
                case 6:
                    return sum(recalls);
                case 7:
                    return lostByAll();
                default:
                    return sum(refused);
            }
        }

        int sizeOf(int s, int what) {
            switch (what) {
                case 0:
                    return floor[s];
                case 1:
                    return ceiling[s];
                case 2:
                    return pagesOf(s);
                case 3:
                    return own[s];
                case 4:
                    return common[s];
                case 5:
                    return sum(loan[s]);
                case 6:
                    return lendsOf(s);
                default:
                    return idleOf(s);
            }
        }

        int countOf(int s, int what) {
            switch (what) {
                case 8:
                    return recalls[s];
                case 9:
                    return lost[s];
                default:
                    return refused[s];
            }
        }

        int pageByAge(int s, int i) {
            if (i >= PAGES) {
                return NONE;
            }
            int page = oldestAfter(s, 0);
            for (int k = 0; k < i && page != NONE; k++) {
                page = oldestAfter(s, written[s][page]);
            }
            return page;
        }

        /** The page that was written first after that time; NONE if none was. */
        private int oldestAfter(int s, int moment) {
            int found = NONE;
            for (int page = 0; page < PAGES; page++) {
                if (written[s][page] > moment && (found == NONE || written[s][page] < written[s][found])) {
                    found = page;
                }
            }
            return found;
        }

        // spaces and their bounds

        boolean areBounds(int low, int high) {
            return low >= 0 && low <= high && high >= 1 && high <= BLOCKS;
        }

        boolean hasRoomForSpace(int low) {
            return spaces < MOST_SPACES && low <= freeCommonRoom();
        }

        /** Returns the number of the new space, or NONE if it can't be made. */
        int addSpace(int low, int high) {
            if (!areBounds(low, high) || !hasRoomForSpace(low)) {
                return NONE;
            }
            floor[spaces] = low;
            ceiling[spaces] = high;
            spaces++;
            return spaces - 1;
        }

        int smallestFloor(int s) {
            return floor[s] - idleOf(s);
        }

        int greatestFloor(int s) {
            return Math.min(ceiling[s], floor[s] + freeCommonRoom());
        }

        boolean takesFloor(int s, int low) {
            return hasSpace(s) && low >= smallestFloor(s) && low <= greatestFloor(s);
        }

        boolean changeFloor(int s, int low) {
            if (!takesFloor(s, low)) {
                return false;
            }
            floor[s] = low;
            return true;
        }

        boolean takesCeiling(int s, int high) {
            return hasSpace(s) && areBounds(floor[s], high);
        }

        boolean changeCeiling(int s, int high) {
            if (!takesCeiling(s, high)) {
                return false;
            }
            ceiling[s] = high;
            return true;
        }

        // pages and their room

        /** Returns how a write went, or NONE if there is no such space or page. */
        int putPage(int s, int page) {
            if (!hasPage(s, page)) {
                return NONE;
            }
            int way = isWritten(s, page) ? REWRITTEN : takeBlock(s);
            if (way == REFUSED) {
                refused[s]++;
                return REFUSED;
            }
            clock++;
            written[s][page] = clock;
            return way;
        }

        boolean dropPage(int s, int page) {
            if (!isWritten(s, page)) {
                return false;
            }
            written[s][page] = 0;
            int lender = greatestLender(s);
            if (lender != NONE) {
                loan[s][lender]--;
            } else if (common[s] > 0) {
                common[s]--;
            } else {
                own[s]--;
            }
            return true;
        }

        /** Backs one more page of a space; returns how its room came, or that it is refused. */
        int takeBlock(int s) {
            if (pagesOf(s) >= ceiling[s]) {
                return REFUSED;
            }
            if (idleOf(s) > 0) {
                own[s]++;
                return BY_OWN_FLOOR;
            }
            if (own[s] < floor[s]) {
                recallLoan(s);
                own[s]++;
                return BY_RECALL;
            }
            if (freeCommonRoom() > 0) {
                common[s]++;
                return BY_COMMON_ROOM;
            }
            int lender = idlestBut(s, s);
            if (lender == NONE) {
                return REFUSED;
            }
            loan[s][lender]++;
            return BY_LOAN;
        }

        private void recallLoan(int lender) {
            int borrower = greatestBorrower(lender);
            if (borrower == NONE) {
                return;
            }
            loan[borrower][lender]--;
            recalls[lender]++;
            if (idleOf(borrower) > 0) {
                own[borrower]++;
                return;
            }
            if (freeCommonRoom() > 0) {
                common[borrower]++;
                return;
            }
            int other = idlestBut(borrower, lender);
            if (other != NONE) {
                loan[borrower][other]++;
            } else {
                loseOldest(borrower);
            }
        }

        private void loseOldest(int s) {
            int page = oldestAfter(s, 0);
            if (page != NONE) {
                written[s][page] = 0;
                lost[s]++;
            }
        }

        private int greatestBorrower(int lender) {
            int found = NONE;
            for (int s = 0; s < spaces; s++) {
                if (loan[s][lender] > (found == NONE ? 0 : loan[found][lender])) {
                    found = s;
                }
            }
            return found;
        }

        private int greatestLender(int borrower) {
            int found = NONE;
            for (int s = 0; s < spaces; s++) {
                if (loan[borrower][s] > (found == NONE ? 0 : loan[borrower][found])) {
                    found = s;
                }
            }
            return found;
        }

        /** The space, but for those two, whose floor is idle by most; NONE if none of them is idle. */
        private int idlestBut(int one, int another) {
            int found = NONE;
            int most = 0;
            for (int s = 0; s < spaces; s++) {
                int idle = idleOf(s);
                if (s != one && s != another && idle > most) {
                    found = s;
                    most = idle;
                }
            }
            return found;
        }
    }

    /** The text buffer, and which signs a device as a text has at which places. */
    private static final class Text {
        int length;
        private final char[] signs = new char[MOST_SIGNS];

        boolean isFull() {
            return length >= MOST_SIGNS;
        }

        int add(char sign) {
            if (!isFull()) {
                signs[length] = sign;
                length++;
            }
            return length;
        }

        int empty() {
            int before = length;
            length = 0;
            return before;
        }

        char sign(int at) {
            return at >= 0 && at < length ? signs[at] : ' ';
        }

        boolean isDigit(int at) {
            return sign(at) >= '0' && sign(at) <= '9';
        }

        int number(int at, int digits) {
            int number = 0;
            for (int k = 0; k < digits; k++) {
                if (isDigit(at + k)) {
                    number = 10 * number + sign(at + k) - '0';
                }
            }
            return number;
        }

        int firstError() {
            String places = "D";
            int done = 0;
            for (int at = 0; at < length; at++) {
                if (done < places.length()) {
                    if (!fits(places.charAt(done), at)) {
                        return at;
                    }
                    done++;
                } else {
                    places = placesBehind(sign(at));
                    done = 0;
                    if (places.isEmpty()) {
                        return at;
                    }
                }
            }
            return done < places.length() ? length : NONE;
        }

        /**
         * What stands behind the letter of a command, sign by sign: S for a space; F and f,
         * C and c, P and p for the first and second digit of a floor, a ceiling, a page.
         */
        private static String placesBehind(char letter) {
            switch (letter) {
                case 's':
                    return "FfCc";
                case 'w':
                case 't':
                    return "SPp";
                case 'f':
                    return "SFf";
                case 'r':
                    return "SPpPp";
                default:
                    return "";
            }
        }

        private boolean fits(char place, int at) {
            if (place == 'D') {
                return sign(at) == 'D';
            }
            if (!isDigit(at)) {
                return false;
            }
            int digit = number(at, 1);
            switch (place) {
                case 'S':
                    return digit < MOST_SPACES;
                case 'P':
                    return 10 * digit < PAGES;
                case 'p':
                    return number(at - 1, 2) < PAGES;
                case 'c':
                    return number(at - 1, 2) >= 1 && number(at - 1, 2) <= BLOCKS;
                case 'f':
                    return number(at - 1, 2) <= BLOCKS;
                default:
                    return 10 * digit <= BLOCKS;
            }
        }
    }

    /** The states before the last actions, in a ring whose oldest one gives way. */
    private static final class History {
        private final Device[] states = new Device[MOST_REMEMBERED];
        private int first;
        private int count;

        History() {
            for (int i = 0; i < MOST_REMEMBERED; i++) {
                states[i] = new Device();
            }
        }

        boolean isEmpty() {
            return count == 0;
        }

        void forgetAll() {
            count = 0;
        }

        void remember(Device state) {
            if (count == MOST_REMEMBERED) {
                first = (first + 1) % MOST_REMEMBERED;
                count--;
            }
            states[(first + count) % MOST_REMEMBERED].become(state);
            count++;
        }

        /** Returns how many states are left; does nothing if there is none. */
        int takeBack(Device state) {
            if (count > 0) {
                count--;
                state.become(states[(first + count) % MOST_REMEMBERED]);
            }
            return count;
        }
    }
}
