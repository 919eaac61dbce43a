/**
 * Scanner gates of a library that must not shout twice for one book.
 *
 * A set of books is an int with bit b set for the book b, as the document answers it.
 */
public final class ShoutGates {
    public static final int NONE = -9;

    private static final int BOOKS = 20;
    private static final int VISITORS = 6;
    private static final int GATES = 3;
    private static final int BAG_LIMIT = 6;
    private static final int LAST_PLACE = 3;

    private static final int STRONGEST = 15;
    private static final int SUREST = 3;
    private static final int LONGEST_QUIET = 9;
    private static final int FIRST_STRENGTH = 7;
    private static final int FIRST_SURENESS = 2;
    private static final int FIRST_QUIET_TIME = 1;

    private static final int INSIDE = 0;
    private static final int AT_GATE = 1;
    private static final int OUTSIDE = 2;

    private static final int SURENESS = 3;
    private static final int QUIET_TIME = 4;

    private static final int TEXT_LIMIT = 120;
    private static final int REMEMBERED_LIMIT = 14;
    private static final int SLOTS = 2;
    private static final int KEPT_SHOUTS = 10;
    private static final int MOST_TICKS = 50;
    private static final int MOST_TURNS = 99;
    private static final int FORESEEN_TICKS = 99;
    private static final int MOST_COMMANDS = 3;
    private static final int GROUP = 100000;

    // From the place -3 out, or from 3 in, nobody is at a gate for more ticks than these.
    private static final int CROSSING_TICKS = 2 * LAST_PLACE + 1;

    private final Text text;
    private final Library library;
    // Every look ahead uses this one copy, so that no call makes objects.
    private final Library trial;
    private final Library[] remembered;
    private int rememberedCount;
    private final Library[] saved;
    private final boolean[] isSaved;

    public ShoutGates() {
        text = new Text();
        library = new Library();
        trial = new Library();
        remembered = new Library[REMEMBERED_LIMIT];
        for (int i = 0; i < REMEMBERED_LIMIT; i++) {
            remembered[i] = new Library();
        }
        rememberedCount = 0;
        saved = new Library[SLOTS];
        for (int i = 0; i < SLOTS; i++) {
            saved[i] = new Library();
        }
        isSaved = new boolean[SLOTS];
    }

    // ---- text

    public int append(int c) throws IllegalArgumentException, IllegalStateException {
        if (c < 0 || c > 255) {
            throw new IllegalArgumentException("no character");
        }
        if (text.isFull()) {
            throw new IllegalStateException("the text is full");
        }
        return text.add((char) c);
    }

    public int clearText() {
        return text.empty();
    }

    public int errorPosition() {
        return text.firstError();
    }

    public int load() throws IllegalStateException {
        if (text.firstError() != NONE) {
            throw new IllegalStateException("the text is not a library");
        }
        forgetEverything();
        text.startReading();
        text.readHeader();
        putGatesOfText();
        int leftOut = 0;
        for (int i = 0; i < TEXT_LIMIT && text.readCommand(); i++) {
            if (!doTextCommand()) {
                leftOut++;
            }
        }
        return leftOut;
    }

    private void forgetEverything() {
        library.clear();
        rememberedCount = 0;
        for (int slot = 0; slot < SLOTS; slot++) {
            isSaved[slot] = false;
        }
    }

    private void putGatesOfText() {
        for (int g = 0; g < GATES; g++) {
            library.gates.strength[g] = text.strength[g];
        }
        library.sureness = text.sureness;
        library.gates.quietTime = text.quietTime;
    }

    private boolean doTextCommand() {
        switch (text.letter) {
            case 't':
                return library.tryTake(text.visitor, text.book);
            case 'p':
                return library.tryPutBack(text.book);
            case 'b':
                return library.tryBorrowOrBringBack(text.book);
            case 'o':
                return library.tryWalk(text.visitor, text.gate, true);
            case 'i':
                return library.tryWalk(text.visitor, text.gate, false);
            case 'r':
                return library.tryTurn(text.visitor);
            default:
                library.passTicks(text.tickCount);
                return true;
        }
    }

    // ---- what there is

    public int about(int what) throws IllegalArgumentException {
        switch (what) {
            case 0:
                return library.tickCount;
            case 1:
                return library.gates.shoutCount();
            case 2:
                return library.gates.waitingCount();
            case 3:
                return library.caught;
            case 4:
                return library.slipped;
            case 5:
                return Integer.bitCount(library.borrowed);
            case 6:
                return Integer.bitCount(library.booksInBags());
            case 7:
                return library.visitorsWho(AT_GATE);
            case 8:
                return library.visitorsWho(OUTSIDE);
            case 9:
                return library.sureness;
            case 10:
                return library.gates.quietTime;
            default:
                throw new IllegalArgumentException("no such number");
        }
    }

    public int book(int b, int what) throws IndexOutOfBoundsException, IllegalArgumentException {
        requireBook(b);
        switch (what) {
            case 0:
                return library.holderOf(b);
            case 1:
                return oneIf(has(library.borrowed, b));
            case 2:
                return library.reads[b];
            case 3:
                return oneIf(has(library.told, b));
            case 4:
                return library.shoutsOfBook[b];
            default:
                throw new IllegalArgumentException("no such number of a book");
        }
    }

    public int visitor(int v, int what) throws IndexOutOfBoundsException, IllegalArgumentException {
        requireVisitor(v);
        boolean atGate = library.where[v] == AT_GATE;
        switch (what) {
            case 0:
                return library.where[v];
            case 1:
                return atGate ? library.gateOf[v] : NONE;
            case 2:
                return atGate ? library.place[v] : NONE;
            case 3:
                return atGate ? oneIf(library.wayOut[v]) : NONE;
            case 4:
                return library.bag[v];
            default:
                throw new IllegalArgumentException("no such number of a visitor");
        }
    }

    public int gate(int g, int what) throws IndexOutOfBoundsException, IllegalArgumentException {
        requireGate(g);
        switch (what) {
            case 0:
                return library.gates.strength[g];
            case 1:
                return library.gates.quietFor[g];
            case 2:
                return library.gates.waiting[g];
            case 3:
                return library.gates.firstWaiting(g);
            case 4:
                return library.gates.shouts[g];
            case 5:
                return library.booksRead(g, false);
            default:
                throw new IllegalArgumentException("no such number of a gate");
        }
    }

    public int shout(int k, int what) throws IllegalArgumentException {
        if (k < 0 || k >= KEPT_SHOUTS) {
            throw new IllegalArgumentException("no such shout");
        }
        switch (what) {
            case 0:
                return library.gates.lastGate[k];
            case 1:
                return library.gates.lastBook[k];
            case 2:
                return library.gates.lastTick[k];
            default:
                throw new IllegalArgumentException("no such number of a shout");
        }
    }

    // ---- actions

    public int take(int v, int b) throws IndexOutOfBoundsException, IllegalStateException {
        requireVisitor(v);
        requireBook(b);
        requireAllowed(library.canTake(v, b));
        remember();
        library.tryTake(v, b);
        return Integer.bitCount(library.bag[v]);
    }

    public int putBack(int b) throws IndexOutOfBoundsException, IllegalStateException {
        requireBook(b);
        requireAllowed(library.canPutBack(b));
        remember();
        int holder = library.holderOf(b);
        library.tryPutBack(b);
        return holder;
    }

    public int borrow(int b) throws IndexOutOfBoundsException, IllegalStateException {
        requireBook(b);
        requireAllowed(library.canBorrow(b));
        remember();
        library.tryBorrow(b);
        return Integer.bitCount(library.borrowed);
    }

    public int bringBack(int b) throws IndexOutOfBoundsException, IllegalStateException {
        requireBook(b);
        requireAllowed(library.canBringBack(b));
        remember();
        library.tryBringBack(b);
        return Integer.bitCount(library.borrowed);
    }

    public int walk(int v, int g, boolean out) throws IndexOutOfBoundsException, IllegalStateException {
        requireVisitor(v);
        requireGate(g);
        requireAllowed(library.canWalk(v, g, out));
        remember();
        library.tryWalk(v, g, out);
        return library.visitorsAt(g);
    }

    public int turn(int v) throws IndexOutOfBoundsException, IllegalStateException {
        requireVisitor(v);
        requireAllowed(library.canTurn(v));
        remember();
        library.tryTurn(v);
        return oneIf(library.wayOut[v]);
    }

    public int ticks(int n) throws IllegalArgumentException {
        if (!isTickNumber(n)) {
            throw new IllegalArgumentException("ticks are 1 to 50");
        }
        remember();
        return library.passTicks(n);
    }

    public int set(int what, int v) throws IllegalArgumentException {
        if (!isSetting(what, v)) {
            throw new IllegalArgumentException("no such setting");
        }
        remember();
        return library.change(what, v);
    }

    public int undo() throws IllegalStateException {
        if (rememberedCount <= 0) {
            throw new IllegalStateException("no state is remembered");
        }
        rememberedCount--;
        library.copyFrom(remembered[rememberedCount]);
        return rememberedCount;
    }

    private void remember() {
        if (rememberedCount >= REMEMBERED_LIMIT) {
            forgetOldest();
        }
        remembered[rememberedCount].copyFrom(library);
        rememberedCount++;
    }

    // The oldest state's object goes to the end to be filled anew.
    private void forgetOldest() {
        Library oldest = remembered[0];
        for (int i = 1; i < REMEMBERED_LIMIT; i++) {
            remembered[i - 1] = remembered[i];
        }
        remembered[REMEMBERED_LIMIT - 1] = oldest;
        rememberedCount = REMEMBERED_LIMIT - 1;
    }

    // ---- what would be

    public int shouted(int b) throws IndexOutOfBoundsException {
        requireBook(b);
        trial.copyFrom(library);
        for (int tick = 1; tick <= FORESEEN_TICKS; tick++) {
            trial.passTicks(1);
            if (trial.shoutsOfBook[b] != library.shoutsOfBook[b]) {
                return tick;
            }
        }
        return NONE;
    }

    public int slips() {
        trial.copyFrom(library);
        return trial.slipsOfCrossings();
    }

    public int leastStrength(int g) throws IndexOutOfBoundsException {
        requireGate(g);
        for (int strength = 0; strength <= STRONGEST; strength++) {
            trial.copyFrom(library);
            trial.gates.strength[g] = strength;
            if (trial.slipsOfCrossings() == 0) {
                return strength;
            }
        }
        return NONE;
    }

    public int bestGate(int v) throws IndexOutOfBoundsException, IllegalStateException {
        requireVisitor(v);
        requireAllowed(library.where[v] == INSIDE);
        int best = 0;
        int fewest = shoutsAfterWalk(v, 0);
        for (int g = 1; g < GATES; g++) {
            int shouts = shoutsAfterWalk(v, g);
            if (shouts < fewest) {
                best = g;
                fewest = shouts;
            }
        }
        return best;
    }

    private int shoutsAfterWalk(int v, int g) {
        trial.copyFrom(library);
        trial.tryWalk(v, g, true);
        return trial.passTicks(FORESEEN_TICKS);
    }

    // ---- scripts, simulations

    public int runScript(int n, long script) throws IllegalArgumentException {
        if (n < 1 || n > MOST_COMMANDS || script < 0 || withoutLastGroups(script, n) != 0) {
            throw new IllegalArgumentException("no such script");
        }
        trial.copyFrom(library);
        for (int i = 0; i < n; i++) {
            int command = (int) (withoutLastGroups(script, n - 1 - i) % GROUP);
            if (!doScriptCommand(command)) {
                return i;
            }
        }
        return NONE;
    }

    private static long withoutLastGroups(long script, int groups) {
        long rest = script;
        for (int i = 0; i < groups; i++) {
            rest = rest / GROUP;
        }
        return rest;
    }

    private boolean doScriptCommand(int command) {
        int d2 = command / 1000 % 10;
        int d3 = command / 100 % 10;
        int d4 = command / 10 % 10;
        int d5 = command % 10;
        int bookNumber = 10 * d3 + d4;
        int lastTwo = 10 * d4 + d5;
        switch (command / 10000) {
            case 1:
                return d5 == 0 && trial.tryTake(d2, bookNumber);
            case 2:
                return d2 == 0 && doBookCommand(bookNumber, d5);
            case 3:
                return d4 <= 1 && d5 == 0 && trial.tryWalk(d2, d3, d4 == 1);
            case 4:
                return d3 == 0 && lastTwo == 0 && trial.tryTurn(d2);
            case 5:
                if (d2 != 0 || d3 != 0 || !isTickNumber(lastTwo)) {
                    return false;
                }
                trial.passTicks(lastTwo);
                return true;
            case 6:
                return d2 == 0 && isBook(bookNumber) && oneIf(has(trial.told, bookNumber)) == d5;
            case 7:
                return d3 == 0 && d4 == 0 && isVisitor(d2) && trial.where[d2] == d5;
            case 8:
                return d2 == 0 && d3 == 0 && trial.slipped <= lastTwo;
            case 9:
                return d2 == 0 && d3 == 0 && trial.gates.shoutCount() >= lastTwo;
            default:
                return false;
        }
    }

    private boolean doBookCommand(int b, int k) {
        switch (k) {
            case 0:
                return trial.tryPutBack(b);
            case 1:
                return trial.tryBorrow(b);
            case 2:
                return trial.tryBringBack(b);
            default:
                return false;
        }
    }

    public int simulate(long seed, int m) throws IllegalArgumentException {
        if (m < 1 || m > MOST_TURNS) {
            throw new IllegalArgumentException("turns are 1 to 99");
        }
        trial.copyFrom(library);
        int shouts = 0;
        long x = seed;
        for (int i = 0; i < m; i++) {
            x = x * 6364136223846793005L + 1442695040888963407L;
            doSimulatedTurn((int) (x >>> 33));
            shouts += trial.passTicks(1);
        }
        int caught = trial.caught - library.caught;
        int slipped = trial.slipped - library.slipped;
        return 10000 * shouts + 100 * caught + slipped;
    }

    private void doSimulatedTurn(int r) {
        int v = r / 8 % 6;
        int b = r / 64 % 20;
        int g = r / 2048 % 3;
        switch (r % 8) {
            case 0:
            case 1:
                trial.tryTake(v, b);
                break;
            case 2:
                trial.tryBorrowOrBringBack(b);
                break;
            case 3:
            case 4:
                trial.tryWalkEitherWay(v, g);
                break;
            case 5:
                trial.tryTurn(v);
                break;
            default:
                break;
        }
    }

    // ---- save slots

    public int save(int slot) throws IndexOutOfBoundsException {
        requireSlot(slot);
        saved[slot].copyFrom(library);
        isSaved[slot] = true;
        return library.tickCount;
    }

    public int restore(int slot) throws IndexOutOfBoundsException, IllegalStateException {
        requireSlot(slot);
        requireAllowed(isSaved[slot]);
        library.copyFrom(saved[slot]);
        rememberedCount = 0;
        return library.tickCount;
    }

    // ---- what arguments are allowed

    private static boolean isBook(int b) {
        return b >= 0 && b < BOOKS;
    }

    private static boolean isVisitor(int v) {
        return v >= 0 && v < VISITORS;
    }

    private static boolean isGate(int g) {
        return g >= 0 && g < GATES;
    }

    private static boolean isTickNumber(int n) {
        return n >= 1 && n <= MOST_TICKS;
    }

    private static boolean isSetting(int what, int v) {
        if (isGate(what)) {
            return v >= 0 && v <= STRONGEST;
        }
        if (what == SURENESS) {
            return v >= 1 && v <= SUREST;
        }
        return what == QUIET_TIME && v >= 0 && v <= LONGEST_QUIET;
    }

    private static void requireBook(int b) {
        if (!isBook(b)) {
            throw new IndexOutOfBoundsException("no such book");
        }
    }

    private static void requireVisitor(int v) {
        if (!isVisitor(v)) {
            throw new IndexOutOfBoundsException("no such visitor");
        }
    }

    private static void requireGate(int g) {
        if (!isGate(g)) {
            throw new IndexOutOfBoundsException("no such gate");
        }
    }

    private static void requireSlot(int slot) {
        if (slot < 0 || slot >= SLOTS) {
            throw new IndexOutOfBoundsException("no such save slot");
        }
    }

    private static void requireAllowed(boolean allowed) {
        if (!allowed) {
            throw new IllegalStateException("not as things stand");
        }
    }

    private static int bit(int b) {
        return 1 << b;
    }

    private static boolean has(int books, int b) {
        return (books >> b & 1) != 0;
    }

    private static int oneIf(boolean yes) {
        return yes ? 1 : 0;
    }

    private static void copyInts(int[] from, int[] to) {
        System.arraycopy(from, 0, to, 0, Math.min(from.length, to.length));
    }

    /** The gates with their rows of waiting shouts, and the last shouts. */
    private static final class Gates {
        final int[] strength = new int[GATES];
        final int[] quietFor = new int[GATES];
        final int[] shouts = new int[GATES];
        final int[] waiting = new int[GATES];
        // The row of gate g begins at BOOKS * g: a book waits once at most, so a row never needs more.
        final int[] rows = new int[GATES * BOOKS];
        final int[] lastGate = new int[KEPT_SHOUTS];
        final int[] lastBook = new int[KEPT_SHOUTS];
        final int[] lastTick = new int[KEPT_SHOUTS];
        int quietTime;

        void clear() {
            for (int g = 0; g < GATES; g++) {
                strength[g] = FIRST_STRENGTH;
                quietFor[g] = 0;
                shouts[g] = 0;
                waiting[g] = 0;
            }
            for (int k = 0; k < KEPT_SHOUTS; k++) {
                lastGate[k] = NONE;
                lastBook[k] = NONE;
                lastTick[k] = NONE;
            }
            quietTime = FIRST_QUIET_TIME;
        }

        void copyFrom(Gates other) {
            copyInts(other.strength, strength);
            copyInts(other.quietFor, quietFor);
            copyInts(other.shouts, shouts);
            copyInts(other.waiting, waiting);
            copyInts(other.rows, rows);
            copyInts(other.lastGate, lastGate);
            copyInts(other.lastBook, lastBook);
            copyInts(other.lastTick, lastTick);
            quietTime = other.quietTime;
        }

        int shoutCount() {
            return shouts[0] + shouts[1] + shouts[2];
        }

        int waitingCount() {
            return waiting[0] + waiting[1] + waiting[2];
        }

        int firstWaiting(int g) {
            return waiting[g] > 0 ? rows[BOOKS * g] : NONE;
        }

        void putAtEnd(int g, int b) {
            if (waiting[g] < BOOKS) {
                rows[BOOKS * g + waiting[g]] = b;
                waiting[g]++;
            }
        }

        void forget(int books) {
            for (int g = 0; g < GATES; g++) {
                int kept = 0;
                for (int i = 0; i < BOOKS && i < waiting[g]; i++) {
                    int b = rows[BOOKS * g + i];
                    if (!has(books, b)) {
                        rows[BOOKS * g + kept] = b;
                        kept++;
                    }
                }
                waiting[g] = kept;
            }
        }

        /** Answers the book that is shouted at the gate in this tick, NONE if none is. */
        int passTick(int g, int tick) {
            if (quietFor[g] > 0) {
                quietFor[g]--;
                return NONE;
            }
            int b = firstWaiting(g);
            if (b == NONE) {
                return NONE;
            }
            forget(bit(b));
            quietFor[g] = quietTime;
            shouts[g]++;
            keepShout(g, b, tick);
            return b;
        }

        private void keepShout(int g, int b, int tick) {
            for (int k = KEPT_SHOUTS - 1; k > 0; k--) {
                lastGate[k] = lastGate[k - 1];
                lastBook[k] = lastBook[k - 1];
                lastTick[k] = lastTick[k - 1];
            }
            lastGate[0] = g;
            lastBook[0] = b;
            lastTick[0] = tick;
        }
    }

    /** The state: everything but the text and the save slots. */
    private static final class Library {
        final Gates gates = new Gates();
        final int[] bag = new int[VISITORS];
        final int[] where = new int[VISITORS];
        final int[] gateOf = new int[VISITORS];
        final int[] place = new int[VISITORS];
        final boolean[] wayOut = new boolean[VISITORS];
        final int[] reads = new int[BOOKS];
        final int[] shoutsOfBook = new int[BOOKS];
        int borrowed;
        int told;
        int sureness;
        int tickCount;
        int caught;
        int slipped;
        // The books of which slipped counts, since a look ahead began.
        int slippedBooks;

        Library() {
            clear();
        }

        void clear() {
            gates.clear();
            for (int v = 0; v < VISITORS; v++) {
                bag[v] = 0;
                where[v] = INSIDE;
                gateOf[v] = NONE;
                place[v] = NONE;
                wayOut[v] = false;
            }
            for (int b = 0; b < BOOKS; b++) {
                reads[b] = 0;
                shoutsOfBook[b] = 0;
            }
            borrowed = 0;
            told = 0;
            sureness = FIRST_SURENESS;
            tickCount = 0;
            caught = 0;
            slipped = 0;
            slippedBooks = 0;
        }

        void copyFrom(Library other) {
            gates.copyFrom(other.gates);
            copyInts(other.bag, bag);
            copyInts(other.where, where);
            copyInts(other.gateOf, gateOf);
            copyInts(other.place, place);
            for (int v = 0; v < VISITORS; v++) {
                wayOut[v] = other.wayOut[v];
            }
            copyInts(other.reads, reads);
            copyInts(other.shoutsOfBook, shoutsOfBook);
            borrowed = other.borrowed;
            told = other.told;
            sureness = other.sureness;
            tickCount = other.tickCount;
            caught = other.caught;
            slipped = other.slipped;
            slippedBooks = other.slippedBooks;
        }

        int holderOf(int b) {
            for (int v = 0; v < VISITORS; v++) {
                if (has(bag[v], b)) {
                    return v;
                }
            }
            return NONE;
        }

        int booksInBags() {
            int books = 0;
            for (int v = 0; v < VISITORS; v++) {
                books |= bag[v];
            }
            return books;
        }

        int visitorsWho(int are) {
            int count = 0;
            for (int v = 0; v < VISITORS; v++) {
                count += oneIf(where[v] == are);
            }
            return count;
        }

        int visitorsAt(int g) {
            int count = 0;
            for (int v = 0; v < VISITORS; v++) {
                count += oneIf(where[v] == AT_GATE && gateOf[v] == g);
            }
            return count;
        }

        private boolean isBookInside(int b) {
            for (int v = 0; v < VISITORS; v++) {
                if (has(bag[v], b)) {
                    return where[v] == INSIDE;
                }
            }
            return true;
        }

        boolean canTake(int v, int b) {
            return isVisitor(v) && isBook(b) && holderOf(b) == NONE
                && where[v] == INSIDE && Integer.bitCount(bag[v]) < BAG_LIMIT;
        }

        boolean canPutBack(int b) {
            return isBook(b) && holderOf(b) != NONE && isBookInside(b);
        }

        boolean canBorrow(int b) {
            return isBook(b) && !has(borrowed, b) && isBookInside(b);
        }

        boolean canBringBack(int b) {
            return isBook(b) && has(borrowed, b) && isBookInside(b);
        }

        boolean canWalk(int v, int g, boolean out) {
            return isVisitor(v) && isGate(g) && where[v] == (out ? INSIDE : OUTSIDE);
        }

        boolean canTurn(int v) {
            return isVisitor(v) && where[v] == AT_GATE;
        }

        boolean tryTake(int v, int b) {
            if (!canTake(v, b)) {
                return false;
            }
            bag[v] |= bit(b);
            return true;
        }

        boolean tryPutBack(int b) {
            if (!canPutBack(b)) {
                return false;
            }
            for (int v = 0; v < VISITORS; v++) {
                bag[v] &= ~bit(b);
            }
            return true;
        }

        boolean tryBorrow(int b) {
            if (!canBorrow(b)) {
                return false;
            }
            borrowed |= bit(b);
            return true;
        }

        boolean tryBringBack(int b) {
            if (!canBringBack(b)) {
                return false;
            }
            borrowed &= ~bit(b);
            return true;
        }

        boolean tryBorrowOrBringBack(int b) {
            return has(borrowed, b) ? tryBringBack(b) : tryBorrow(b);
        }

        boolean tryWalk(int v, int g, boolean out) {
            if (!canWalk(v, g, out)) {
                return false;
            }
            where[v] = AT_GATE;
            gateOf[v] = g;
            place[v] = out ? -LAST_PLACE : LAST_PLACE;
            wayOut[v] = out;
            return true;
        }

        boolean tryWalkEitherWay(int v, int g) {
            return isVisitor(v) && tryWalk(v, g, where[v] == INSIDE);
        }

        boolean tryTurn(int v) {
            if (!canTurn(v)) {
                return false;
            }
            wayOut[v] = !wayOut[v];
            return true;
        }

        /** Changes a setting and answers what it was. */
        int change(int what, int value) {
            int previous;
            if (isGate(what)) {
                previous = gates.strength[what];
                gates.strength[what] = value;
            } else if (what == SURENESS) {
                previous = sureness;
                sureness = value;
            } else {
                previous = gates.quietTime;
                gates.quietTime = value;
            }
            return previous;
        }

        int booksRead(int g, boolean onlyWayOut) {
            int books = 0;
            for (int v = 0; v < VISITORS; v++) {
                if (where[v] == AT_GATE && (wayOut[v] || !onlyWayOut) && reaches(g, v)) {
                    books |= bag[v];
                }
            }
            return books;
        }

        private boolean reaches(int g, int v) {
            int needed = 2 * Math.abs(place[v]) + Integer.bitCount(bag[v]);
            switch (Math.abs(gateOf[v] - g)) {
                case 0:
                    return gates.strength[g] >= needed;
                case 1:
                    return gates.strength[g] / 2 >= needed;
                default:
                    return false;
            }
        }

        /** Answers the number of shouts in these ticks. */
        int passTicks(int n) {
            int before = gates.shoutCount();
            for (int i = 0; i < n; i++) {
                passTick();
            }
            return gates.shoutCount() - before;
        }

        private void passTick() {
            tickCount++;
            for (int v = 0; v < VISITORS; v++) {
                if (where[v] == AT_GATE) {
                    forgetReading(goOn(v));
                }
            }
            for (int g = 0; g < GATES; g++) {
                readBooks(g);
            }
            for (int g = 0; g < GATES; g++) {
                int b = gates.passTick(g, tickCount);
                if (isBook(b)) {
                    shoutsOfBook[b]++;
                }
            }
        }

        /** Answers the books that come inside by that. */
        private int goOn(int v) {
            place[v] += wayOut[v] ? 1 : -1;
            if (place[v] > LAST_PLACE) {
                where[v] = OUTSIDE;
                countOutside(bag[v] & ~borrowed);
                return 0;
            }
            if (place[v] < -LAST_PLACE) {
                where[v] = INSIDE;
                return bag[v];
            }
            return 0;
        }

        private void countOutside(int books) {
            caught += Integer.bitCount(books & told);
            slipped += Integer.bitCount(books & ~told);
            slippedBooks |= books & ~told;
        }

        private void forgetReading(int books) {
            if (books == 0) {
                return;
            }
            for (int b = 0; b < BOOKS; b++) {
                if (has(books, b)) {
                    reads[b] = 0;
                }
            }
            told &= ~books;
            gates.forget(books);
        }

        private void readBooks(int g) {
            int books = booksRead(g, true) & ~borrowed & ~told;
            for (int b = 0; b < BOOKS && books != 0; b++) {
                if (has(books, b)) {
                    reads[b]++;
                    if (reads[b] >= sureness) {
                        told |= bit(b);
                        gates.putAtEnd(g, b);
                    }
                }
            }
        }

        /** Lets everybody leave the gates and answers the books that slip out by that. */
        int slipsOfCrossings() {
            slippedBooks = 0;
            passTicks(CROSSING_TICKS);
            return slippedBooks;
        }
    }

    /** The text buffer, and what is read in it from left to right. */
    private static final class Text {
        private final char[] signs = new char[TEXT_LIMIT];
        private int length = 0;
        // Stays at the first character that is not allowed when a reading fails.
        private int position = 0;
        private int number = 0;
        final int[] strength = new int[GATES];
        int sureness = 0;
        int quietTime = 0;
        int letter = 0;
        int visitor = 0;
        int book = 0;
        int gate = 0;
        int tickCount = 0;

        boolean isFull() {
            return length >= TEXT_LIMIT;
        }

        int add(char sign) {
            if (length >= 0 && length < TEXT_LIMIT) {
                signs[length] = sign;
                length++;
            }
            return length;
        }

        int empty() {
            int previous = length;
            length = 0;
            return previous;
        }

        int firstError() {
            startReading();
            if (!readHeader()) {
                return position;
            }
            for (int i = 0; i < TEXT_LIMIT && position < length; i++) {
                if (!readCommand()) {
                    return position;
                }
            }
            return NONE;
        }

        void startReading() {
            position = 0;
        }

        boolean readHeader() {
            if (!readSign('L', 'L')) {
                return false;
            }
            for (int g = 0; g < GATES; g++) {
                if (!readTwoDigits(STRONGEST)) {
                    return false;
                }
                strength[g] = number;
            }
            if (!readDigit(1, SUREST)) {
                return false;
            }
            sureness = number;
            if (!readDigit(0, LONGEST_QUIET)) {
                return false;
            }
            quietTime = number;
            return true;
        }

        boolean readCommand() {
            if (!readSign('a', 'z')) {
                return false;
            }
            switch (letter) {
                case 't':
                    return readVisitor() && readBook();
                case 'p':
                case 'b':
                    return readBook();
                case 'o':
                case 'i':
                    return readVisitor() && readGate();
                case 'r':
                    return readVisitor();
                case 'n':
                    return readTickCount();
                default:
                    position--;
                    return false;
            }
        }

        private boolean readVisitor() {
            boolean fine = readDigit(0, VISITORS - 1);
            visitor = number;
            return fine;
        }

        private boolean readBook() {
            boolean fine = readTwoDigits(BOOKS - 1);
            book = number;
            return fine;
        }

        private boolean readGate() {
            boolean fine = readDigit(0, GATES - 1);
            gate = number;
            return fine;
        }

        private boolean readTickCount() {
            boolean fine = readDigit(1, 9);
            tickCount = number;
            return fine;
        }

        private boolean readTwoDigits(int most) {
            if (!readDigit(0, most / 10)) {
                return false;
            }
            int tens = number;
            if (!readDigit(0, tens < most / 10 ? 9 : most % 10)) {
                return false;
            }
            number = 10 * tens + number;
            return true;
        }

        private boolean readDigit(int least, int most) {
            if (position < 0 || position >= length) {
                return false;
            }
            int digit = signs[position] - '0';
            if (digit < least || digit > most) {
                return false;
            }
            number = digit;
            position++;
            return true;
        }

        private boolean readSign(char first, char last) {
            if (position < 0 || position >= length) {
                return false;
            }
            char sign = signs[position];
            if (sign < first || sign > last) {
                return false;
            }
            letter = sign;
            position++;
            return true;
        }
    }
}
