/** Runs reckoned by hand from the document, at least one for each promise. */
public final class PromiseTest extends Checks {
    public static void main(String[] args) {
        newObject();
        append();
        clearText();
        errorPosition();
        load();
        about();
        book();
        visitor();
        gate();
        shout();
        take();
        putBack();
        borrow();
        bringBack();
        walk();
        turn();
        ticks();
        tickReadings();
        tickRows();
        tickOutAndIn();
        set();
        undo();
        shouted();
        slips();
        leastStrength();
        bestGate();
        runScript();
        simulate();
        saveAndRestore();
        lookingChangesNothing();
        end("PromiseTest");
    }

    // ---- promises

    private static void newObject() {
        ShoutGates x = new ShoutGates();
        due("NONE", () -> ShoutGates.NONE, -9);
        int[] about = {0, 0, 0, 0, 0, 0, 0, 0, 0, 2, 1};
        for (int what = 0; what < about.length; what++) {
            int w = what;
            due("new about " + w, () -> x.about(w), about[w]);
        }
        int[] book = {NONE, 0, 0, 0, 0};
        for (int b = 0; b < 20; b++) {
            for (int what = 0; what < 5; what++) {
                int n = b;
                int w = what;
                due("new book " + n + " " + w, () -> x.book(n, w), book[w]);
            }
        }
        int[] visitor = {0, NONE, NONE, NONE, 0};
        for (int v = 0; v < 6; v++) {
            for (int what = 0; what < 5; what++) {
                int n = v;
                int w = what;
                due("new visitor " + n + " " + w, () -> x.visitor(n, w), visitor[w]);
            }
        }
        int[] gate = {7, 0, 0, NONE, 0, 0};
        for (int g = 0; g < 3; g++) {
            for (int what = 0; what < 6; what++) {
                int n = g;
                int w = what;
                due("new gate " + n + " " + w, () -> x.gate(n, w), gate[w]);
            }
        }
        due("new text", x::errorPosition, 0);
        due("new undo", x::undo, STATE);
        due("new restore 0", () -> x.restore(0), STATE);
        due("new restore 1", () -> x.restore(1), STATE);
    }

    private static void append() {
        ShoutGates x = new ShoutGates();
        due("append 0", () -> x.append(0), 1);
        due("append 255", () -> x.append(255), 2);
        due("append -1", () -> x.append(-1), ARGUMENT);
        due("append 256", () -> x.append(256), ARGUMENT);
        due("append least", () -> x.append(Integer.MIN_VALUE), ARGUMENT);
        due("append is 3 still", () -> x.append('L'), 3);
        for (int i = 4; i <= 120; i++) {
            int length = i;
            due("append up to 120", () -> x.append('0'), length);
        }
        due("append to a full text", () -> x.append('0'), STATE);
        due("append of no character to a full text", () -> x.append(256), ARGUMENT);
        due("the text has 120", x::clearText, 120);
        due("append after it", () -> x.append('0'), 1);
    }

    private static void clearText() {
        ShoutGates x = new ShoutGates();
        due("clearText of nothing", x::clearText, 0);
        write(x, "L0707");
        due("clearText", x::clearText, 5);
        due("clearText again", x::clearText, 0);
        due("no character is left", x::errorPosition, 0);
        due("it is no action", x::undo, STATE);
        write(x, "L07070721");
        due("a new text stands alone", x::errorPosition, NONE);
    }

    private static void errorAt(String text, int want) {
        ShoutGates x = new ShoutGates();
        write(x, text);
        due("errorPosition of " + text, x::errorPosition, want);
        due("errorPosition of " + text + " again", x::errorPosition, want);
        String before = state(x);
        if (want != NONE) {
            due("load of " + text, x::load, STATE);
            due("load of " + text + " changes nothing", state(x), before);
        }
    }

    private static void errorPosition() {
        errorAt("", 0);
        errorAt("l", 0);
        errorAt("L", 1);
        errorAt("L2", 1);
        errorAt("L1", 2);
        errorAt("L16", 2);
        errorAt("L15", 3);
        errorAt("L09", 3);
        errorAt("L0:", 2);
        errorAt("L/", 1);
        errorAt("L00001", 6);
        errorAt("L000016", 6);
        errorAt("L000015", 7);
        errorAt("L0000150", 7);
        errorAt("L0000154", 7);
        errorAt("L0000153", 8);
        errorAt("L0000153a", 8);
        errorAt("L00001531", NONE);
        errorAt("L15151539", NONE);
        errorAt("L15151530", NONE);
        String head = "L07070721";
        errorAt(head + "L", 9);
        errorAt(head + " ", 9);
        errorAt(head + "a", 9);
        errorAt(head + "T", 9);
        errorAt(head + (char) 255, 9);
        errorAt(head + (char) 0, 9);
        errorAt(head + "t", 10);
        errorAt(head + "t6", 10);
        errorAt(head + "t5", 11);
        errorAt(head + "t52", 11);
        errorAt(head + "t51", 12);
        errorAt(head + "t51t", 12);
        errorAt(head + "t519", NONE);
        errorAt(head + "p2", 10);
        errorAt(head + "p19", NONE);
        errorAt(head + "p0", 11);
        errorAt(head + "b2", 10);
        errorAt(head + "b00", NONE);
        errorAt(head + "o6", 10);
        errorAt(head + "o53", 11);
        errorAt(head + "o52", NONE);
        errorAt(head + "i6", 10);
        errorAt(head + "i03", 11);
        errorAt(head + "i00", NONE);
        errorAt(head + "r6", 10);
        errorAt(head + "r5", NONE);
        errorAt(head + "r", 10);
        errorAt(head + "n0", 10);
        errorAt(head + "n", 10);
        errorAt(head + "n1", NONE);
        errorAt(head + "n9", NONE);
        errorAt(head + "n9n", 12);
        errorAt(head + "t000o00n9p2", 19);
        StringBuilder full = new StringBuilder(head);
        while (full.length() < 119) {
            full.append("r0");
        }
        errorAt(full.toString(), NONE);
        errorAt(full.append('r').toString(), 120);
    }

    private static void load() {
        ShoutGates x = new ShoutGates();
        x.take(0, 19);
        x.borrow(18);
        x.save(0);
        x.save(1);
        write(x, "L00151039t000t000p01p00p00b05b05b06o01o01i01r1r0n3");
        // Left out: the second t000, p01, the second p00, the second o01, i01, r1.
        due("load", x::load, 6);
        due("load: undo", x::undo, STATE);
        due("load: slot 0", () -> x.restore(0), STATE);
        due("load: slot 1", () -> x.restore(1), STATE);
        due("load: strength 0", () -> x.gate(0, 0), 0);
        due("load: strength 1", () -> x.gate(1, 0), 15);
        due("load: strength 2", () -> x.gate(2, 0), 10);
        due("load: sureness", () -> x.about(9), 3);
        due("load: quiet time", () -> x.about(10), 9);
        due("load: ticks", () -> x.about(0), 3);
        due("load: bags", () -> x.about(6), 0);
        due("load: borrowed before it", () -> x.book(18, 1), 0);
        due("load: borrowed twice", () -> x.book(5, 1), 0);
        due("load: borrowed", () -> x.book(6, 1), 1);
        // It turned at -3, and came inside in the first tick.
        due("load: visitor 0", () -> x.visitor(0, 0), 0);
        due("load keeps the text", x::errorPosition, NONE);
        due("load again", x::load, 6);
        due("load again: ticks", () -> x.about(0), 3);
        due("load keeps the text's length", x::clearText, 50);
        x.take(1, 1);
        write(x, "L000000");
        String before = state(x);
        due("load of no library", x::load, STATE);
        due("load of no library changes nothing", state(x), before);
        due("load of no library keeps what is remembered", x::undo, 0);
        loadWalks();
        loadMakesAllNew();
    }

    private static void loadMakesAllNew() {
        ShoutGates fresh = new ShoutGates();
        write(fresh, "L07070721");
        fresh.load();
        String due = state(fresh);
        // Shouted, waiting, told, read, quiet, borrowed, caught and slipped: of all there is something.
        ShoutGates used = loaded("L15030029t000t001t002o00t103t104o12b19t205t206n9o20n1");
        due("used: shouts", () -> used.about(1) > 0 ? 1 : 0, 1);
        due("used: waiting", () -> used.about(2) > 0 ? 1 : 0, 1);
        due("used: caught", () -> used.about(3) > 0 ? 1 : 0, 1);
        due("used: slipped", () -> used.about(4) > 0 ? 1 : 0, 1);
        due("used: read, not told", () -> used.book(5, 2) > 0 ? used.book(5, 3) : -1, 0);
        used.clearText();
        write(used, "L07070721");
        due("load of no commands", used::load, 0);
        due("load makes all new", state(used), due);
        due("a look ahead is new too", () -> used.simulate(-272, 1), 0);
    }

    private static void loadWalks() {
        ShoutGates x = loaded("L07070721t012t513o50n7i52n1r5o11");
        due("load: books taken", () -> x.visitor(0, 4), 1 << 12);
        due("load: in", () -> x.visitor(5, 1), 2);
        due("load: turned", () -> x.visitor(5, 3), 1);
        due("load: place", () -> x.visitor(5, 2), 2);
        due("load: out", () -> x.visitor(1, 1), 1);
        due("load: at -3", () -> x.visitor(1, 2), -3);
        due("load: caught", () -> x.about(3), 1);
        ShoutGates y = loaded("L07070721b00b01t000t001o00b00n7b01");
        due("a borrowed book slips by nobody", () -> y.about(3) + y.about(4), 0);
        due("outside nothing is brought back", () -> y.about(5), 2);
        due("that is left out", y::load, 2);
    }

    private static void about() {
        ShoutGates x = loaded("L15000020t000t001t102b03t103t204o00o10o20n1");
        // At -2 with 2 books 6 is needed, and 5 with 1, so the gate 0 (15) reads all that is not borrowed.
        int[] first = {1, 0, 0, 0, 0, 1, 5, 3, 0, 2, 0};
        for (int what = 0; what < first.length; what++) {
            int w = what;
            due("about " + w, () -> x.about(w), first[w]);
        }
        x.ticks(1);
        int[] second = {2, 1, 3, 0, 0, 1, 5, 3, 0, 2, 0};
        for (int what = 0; what < second.length; what++) {
            int w = what;
            due("about then " + w, () -> x.about(w), second[w]);
        }
        x.ticks(5);
        int[] third = {7, 4, 0, 4, 0, 1, 5, 0, 3, 2, 0};
        for (int what = 0; what < third.length; what++) {
            int w = what;
            due("about at last " + w, () -> x.about(w), third[w]);
        }
        ShoutGates y = loaded("L00000039t000t001o02n7");
        due("about slipped", () -> y.about(4), 2);
        due("about caught", () -> y.about(3), 0);
        due("about sureness", () -> y.about(9), 3);
        due("about quiet time", () -> y.about(10), 9);
        due("about -1", () -> y.about(-1), ARGUMENT);
        due("about 11", () -> y.about(11), ARGUMENT);
    }

    private static void book() {
        ShoutGates x = loaded("L07070721t519b19t518o50n2");
        due("book in a bag", () -> x.book(18, 0), 5);
        due("book on the shelf", () -> x.book(17, 0), NONE);
        due("book borrowed", () -> x.book(19, 1), 1);
        due("book not borrowed", () -> x.book(18, 1), 0);
        // With 2 books 4 is needed at -1, 6 at -2: the gate 0 reads at both.
        due("book reads", () -> x.book(18, 2), 2);
        due("book borrowed has no reads", () -> x.book(19, 2), 0);
        due("book told", () -> x.book(18, 3), 1);
        due("book not told", () -> x.book(19, 3), 0);
        due("book shouted", () -> x.book(18, 4), 1);
        due("book not shouted", () -> x.book(19, 4), 0);
        due("book -1", () -> x.book(-1, 0), BOUNDS);
        due("book 20", () -> x.book(20, 0), BOUNDS);
        due("book 20, -1", () -> x.book(20, -1), BOUNDS);
        due("book what -1", () -> x.book(0, -1), ARGUMENT);
        due("book what 5", () -> x.book(19, 5), ARGUMENT);
    }

    private static void visitor() {
        ShoutGates x = withBooks(3);
        x.take(5, 19);
        due("visitor's bag", () -> x.visitor(0, 4), 7);
        due("visitor's last book", () -> x.visitor(5, 4), 1 << 19);
        x.walk(0, 2, true);
        int[] atGate = {1, 2, -3, 1, 7};
        for (int what = 0; what < 5; what++) {
            int w = what;
            due("visitor at a gate " + w, () -> x.visitor(0, w), atGate[w]);
        }
        x.ticks(7);
        int[] outside = {2, NONE, NONE, NONE, 7};
        for (int what = 0; what < 5; what++) {
            int w = what;
            due("visitor outside " + w, () -> x.visitor(0, w), outside[w]);
        }
        x.walk(0, 1, false);
        int[] comingIn = {1, 1, 3, 0, 7};
        for (int what = 0; what < 5; what++) {
            int w = what;
            due("visitor on the way in " + w, () -> x.visitor(0, w), comingIn[w]);
        }
        x.ticks(7);
        int[] inside = {0, NONE, NONE, NONE, 7};
        for (int what = 0; what < 5; what++) {
            int w = what;
            due("visitor inside again " + w, () -> x.visitor(0, w), inside[w]);
        }
        due("visitor -1", () -> x.visitor(-1, 0), BOUNDS);
        due("visitor 6", () -> x.visitor(6, 0), BOUNDS);
        due("visitor 6, 5", () -> x.visitor(6, 5), BOUNDS);
        due("visitor what -1", () -> x.visitor(0, -1), ARGUMENT);
        due("visitor what 5", () -> x.visitor(5, 5), ARGUMENT);
    }

    private static void gate() {
        ShoutGates x = loaded("L15060014t003t001b01t102o00o10n1");
        due("gate strength", () -> x.gate(0, 0), 15);
        due("gate strength 1", () -> x.gate(1, 0), 6);
        // All at -2: 1 is borrowed, 3 and 2 were told in this tick, 2 first, as reading goes by books.
        due("gate quiet", () -> x.gate(0, 1), 4);
        due("gate waiting", () -> x.gate(0, 2), 1);
        due("gate first", () -> x.gate(0, 3), 3);
        due("gate shouts", () -> x.gate(0, 4), 1);
        due("gate reads borrowed ones too", () -> x.gate(0, 5), 14);
        due("gate beside, half strength", () -> x.gate(1, 5), 0);
        due("gate not beside", () -> x.gate(2, 5), 0);
        due("gate 1 not quiet", () -> x.gate(1, 1), 0);
        due("gate 1 none first", () -> x.gate(1, 3), NONE);
        x.ticks(1);
        // At -1 with 1 book 3 is needed, with 2 books 4: half of 6 is 3.
        due("gate beside reads", () -> x.gate(1, 5), 4);
        due("gate quiet, less by 1", () -> x.gate(0, 1), 3);
        x.turn(0);
        due("gate reads those on the way in", () -> x.gate(0, 5), 14);
        due("gate -1", () -> x.gate(-1, 0), BOUNDS);
        due("gate 3", () -> x.gate(3, 0), BOUNDS);
        due("gate 3, 6", () -> x.gate(3, 6), BOUNDS);
        due("gate what -1", () -> x.gate(0, -1), ARGUMENT);
        due("gate what 6", () -> x.gate(2, 6), ARGUMENT);
        ShoutGates far = withBooks(1);
        far.set(2, 15);
        far.walk(0, 0, true);
        far.ticks(3);
        due("two gates away is never read", () -> far.gate(2, 5), 0);
        far.set(1, 1);
        due("half of 1 is 0", () -> far.gate(1, 5), 0);
        far.set(1, 2);
        due("half of 2 is 1", () -> far.gate(1, 5), 1);
        far.set(0, 0);
        due("0 is less than 1 book", () -> far.gate(0, 5), 0);
        far.set(0, 1);
        due("1 is 1 book", () -> far.gate(0, 5), 1);
        ShoutGates empty = new ShoutGates();
        empty.walk(0, 0, true);
        due("an empty bag", () -> empty.gate(0, 5), 0);
    }

    private static void shout() {
        ShoutGates x = loaded("L15000010t000t001t002t003t004t005t106t107t108t109t110t111o00o10");
        due("no shout", () -> x.shout(0, 0), NONE);
        x.ticks(9);
        // At -2 with 6 books 10 is needed: all 12 are told in tick 1, one is shouted in each tick.
        for (int k = 0; k < 9; k++) {
            int n = k;
            due("shout gate " + n, () -> x.shout(n, 0), 0);
            due("shout book " + n, () -> x.shout(n, 1), 8 - n);
            due("shout tick " + n, () -> x.shout(n, 2), 9 - n);
        }
        for (int what = 0; what < 3; what++) {
            int w = what;
            due("shout not yet " + w, () -> x.shout(9, w), NONE);
        }
        x.ticks(3);
        due("shout last", () -> x.shout(0, 1), 11);
        due("shout last tick", () -> x.shout(0, 2), 12);
        due("shout tenth", () -> x.shout(9, 1), 2);
        due("shout tenth tick", () -> x.shout(9, 2), 3);
        due("shout -1", () -> x.shout(-1, 0), ARGUMENT);
        due("shout 10", () -> x.shout(10, 0), ARGUMENT);
        due("shout what -1", () -> x.shout(0, -1), ARGUMENT);
        due("shout what 3", () -> x.shout(0, 3), ARGUMENT);
        ShoutGates y = loaded("L00001510t019o02n1");
        due("shout's gate", () -> y.shout(0, 0), 2);
        due("shout's book", () -> y.shout(0, 1), 19);
    }

    private static void take() {
        ShoutGates x = new ShoutGates();
        for (int b = 0; b < 6; b++) {
            int n = b;
            due("take " + n, () -> x.take(5, n), n + 1);
        }
        due("take a seventh", () -> x.take(5, 6), STATE);
        due("take from a bag", () -> x.take(4, 0), STATE);
        due("take again", () -> x.take(5, 0), STATE);
        due("take -1, 0", () -> x.take(-1, 0), BOUNDS);
        due("take 6, 0", () -> x.take(6, 0), BOUNDS);
        due("take 0, -1", () -> x.take(0, -1), BOUNDS);
        due("take 0, 20", () -> x.take(0, 20), BOUNDS);
        x.walk(5, 0, true);
        x.walk(4, 0, true);
        due("take at a gate", () -> x.take(4, 7), STATE);
        x.ticks(7);
        due("take outside", () -> x.take(4, 7), STATE);
        due("take of a borrowed book", () -> x.borrow(19) + x.take(0, 19), 2);
        due("undo of all", () -> undos(x), 11);
    }

    private static void putBack() {
        ShoutGates x = withBooks(6);
        x.take(3, 19);
        x.borrow(19);
        due("putBack", () -> x.putBack(5), 0);
        due("putBack: shelf", () -> x.book(5, 0), NONE);
        due("putBack: bag", () -> x.visitor(0, 4), 31);
        due("putBack a borrowed one", () -> x.putBack(19), 3);
        due("putBack: borrowed still", () -> x.book(19, 1), 1);
        due("putBack again", () -> x.putBack(5), STATE);
        due("putBack -1", () -> x.putBack(-1), BOUNDS);
        due("putBack 20", () -> x.putBack(20), BOUNDS);
        x.walk(0, 0, true);
        due("putBack at a gate", () -> x.putBack(0), STATE);
        x.ticks(7);
        due("putBack outside", () -> x.putBack(0), STATE);
        x.walk(0, 2, false);
        x.ticks(7);
        due("putBack inside again", () -> x.putBack(0), 0);
        due("take it then", () -> x.take(5, 0), 1);
        due("putBack from another", () -> x.putBack(0), 5);
        due("putBack is an action", x::undo, 13);
        due("it is taken back", () -> x.book(0, 0), 5);
    }

    private static void borrow() {
        ShoutGates x = withBooks(2);
        due("borrow on the shelf", () -> x.borrow(19), 1);
        due("borrow in a bag", () -> x.borrow(0), 2);
        due("borrow again", () -> x.borrow(0), STATE);
        due("borrow -1", () -> x.borrow(-1), BOUNDS);
        due("borrow 20", () -> x.borrow(20), BOUNDS);
        x.walk(0, 0, true);
        due("borrow at a gate", () -> x.borrow(1), STATE);
        x.ticks(7);
        due("borrow outside", () -> x.borrow(1), STATE);
        due("the borrowed one is not caught", () -> x.about(3), 1);
    }

    private static void bringBack() {
        ShoutGates x = withBooks(2);
        x.borrow(19);
        x.borrow(0);
        x.borrow(1);
        due("bringBack on the shelf", () -> x.bringBack(19), 2);
        due("bringBack in a bag", () -> x.bringBack(0), 1);
        due("bringBack: borrowed", () -> x.book(0, 1), 0);
        due("bringBack again", () -> x.bringBack(0), STATE);
        due("bringBack -1", () -> x.bringBack(-1), BOUNDS);
        due("bringBack 20", () -> x.bringBack(20), BOUNDS);
        x.walk(0, 0, true);
        due("bringBack at a gate", () -> x.bringBack(1), STATE);
        x.ticks(7);
        due("bringBack outside", () -> x.bringBack(1), STATE);
        due("borrow after bringBack", () -> x.borrow(19), 2);
        ShoutGates y = new ShoutGates();
        y.borrow(7);
        y.bringBack(7);
        due("bringBack is an action", y::undo, 1);
        due("it is taken back", () -> y.book(7, 1), 1);
    }

    private static void walk() {
        ShoutGates x = new ShoutGates();
        due("walk out", () -> x.walk(0, 2, true), 1);
        due("walk out too", () -> x.walk(5, 2, true), 2);
        due("walk out elsewhere", () -> x.walk(1, 0, true), 1);
        due("walk: place", () -> x.visitor(5, 2), -3);
        due("walk out at a gate", () -> x.walk(0, 2, true), STATE);
        due("walk in at a gate", () -> x.walk(0, 2, false), STATE);
        due("walk in from inside", () -> x.walk(2, 0, false), STATE);
        due("walk -1", () -> x.walk(-1, 0, true), BOUNDS);
        due("walk 6", () -> x.walk(6, 0, true), BOUNDS);
        due("walk gate -1", () -> x.walk(2, -1, true), BOUNDS);
        due("walk gate 3", () -> x.walk(2, 3, true), BOUNDS);
        due("walk gate 3 from a gate", () -> x.walk(0, 3, true), BOUNDS);
        x.ticks(6);
        due("walk: at 3", () -> x.visitor(0, 2), 3);
        x.ticks(1);
        due("walk out from outside", () -> x.walk(0, 0, true), STATE);
        due("walk in", () -> x.walk(0, 0, false), 1);
        due("walk in: place", () -> x.visitor(0, 2), 3);
        due("walk in: way", () -> x.visitor(0, 3), 0);
        due("walk in too", () -> x.walk(1, 0, false), 2);
        x.ticks(7);
        due("walk in: inside", () -> x.about(8), 1);
    }

    private static void turn() {
        ShoutGates x = new ShoutGates();
        due("turn inside", () -> x.turn(0), STATE);
        due("turn -1", () -> x.turn(-1), BOUNDS);
        due("turn 6", () -> x.turn(6), BOUNDS);
        x.walk(0, 0, true);
        x.ticks(2);
        due("turn in", () -> x.turn(0), 0);
        due("turn: place", () -> x.visitor(0, 2), -1);
        x.ticks(1);
        due("turn: place then", () -> x.visitor(0, 2), -2);
        due("turn out", () -> x.turn(0), 1);
        x.ticks(6);
        due("turn outside", () -> x.turn(0), STATE);
        x.walk(0, 1, false);
        due("turn at 3", () -> x.turn(0), 1);
        x.ticks(1);
        due("outside at once", () -> x.visitor(0, 0), 2);
        due("undo ticks", x::undo, 8);
        due("turn is an action", x::undo, 7);
        due("it is taken back", () -> x.visitor(0, 3), 0);
    }

    private static void ticks() {
        ShoutGates x = new ShoutGates();
        due("ticks 0", () -> x.ticks(0), ARGUMENT);
        due("ticks 51", () -> x.ticks(51), ARGUMENT);
        due("ticks -1", () -> x.ticks(-1), ARGUMENT);
        due("ticks 1", () -> x.ticks(1), 0);
        due("ticks 50", () -> x.ticks(50), 0);
        due("ticks so far", () -> x.about(0), 51);
        x.take(0, 0);
        x.take(0, 1);
        x.walk(0, 0, true);
        // 2 books: 6 is needed at -2, 4 at -1; both are told in the second tick.
        due("ticks without a shout", () -> x.ticks(1), 0);
        due("ticks with a shout", () -> x.ticks(1), 1);
        due("ticks, quiet", () -> x.ticks(1), 0);
        due("ticks with the next", () -> x.ticks(1), 1);
        due("ticks: nothing more", () -> x.ticks(50), 0);
        due("ticks: caught", () -> x.about(3), 2);
    }

    private static void tickReadings() {
        ShoutGates near = withBooks(1);
        near.set(3, 3);
        near.walk(0, 0, true);
        due("read as things stand at -3", () -> near.gate(0, 5), 1);
        near.ticks(1);
        due("one read at -2", () -> near.book(0, 2), 1);
        near.ticks(1);
        // At -1 the gate 0 reads, and then the gate 1 with half of 7.
        due("two reads at -1", () -> near.book(0, 2), 3);
        due("told at the gate that read last", () -> near.gate(1, 4), 1);
        due("not at the other", () -> near.gate(0, 4) + near.gate(0, 2), 0);
        near.ticks(1);
        due("told once, no more reads", () -> near.book(0, 2), 3);

        ShoutGates full = withBooks(6);
        full.walk(0, 0, true);
        full.ticks(2);
        due("6 books at -1 need 8", () -> full.book(0, 2), 0);
        full.ticks(1);
        due("6 books at 0 need 6", () -> full.book(5, 2), 1);
        full.ticks(4);
        due("read once is not told", () -> full.about(4), 6);

        ShoutGates lowered = withBooks(6);
        lowered.walk(0, 0, true);
        lowered.ticks(3);
        lowered.set(3, 1);
        due("lower sureness tells nothing by itself", () -> lowered.book(0, 3), 0);
        lowered.set(0, 8);
        lowered.ticks(1);
        due("more than the sureness", () -> lowered.book(0, 2), 2);
        due("is told", () -> lowered.book(0, 3), 1);

        ShoutGates in = withBooks(1);
        in.set(0, 0);
        in.set(1, 0);
        in.set(2, 0);
        in.walk(0, 1, true);
        in.ticks(7);
        in.walk(0, 1, false);
        in.set(1, 15);
        in.ticks(3);
        due("nothing is read on the way in", () -> in.book(0, 2), 0);
        in.turn(0);
        in.ticks(1);
        due("but after turning", () -> in.book(0, 2), 1);
    }

    private static void tickRows() {
        ShoutGates x = loaded("L15000013t004t002t101o00n1o10");
        // 2 and 4 are told in tick 1, 2 is shouted; 1 is told in tick 2.
        due("row by books", () -> x.gate(0, 3), 4);
        x.ticks(1);
        due("row of two", () -> x.gate(0, 2), 2);
        due("first come first", () -> x.gate(0, 3), 4);
        due("quiet 2", () -> x.gate(0, 1), 2);
        x.set(4, 0);
        due("quiet stays", () -> x.gate(0, 1), 2);
        due("quiet until tick 4", () -> x.ticks(2), 0);
        due("quiet no more", () -> x.gate(0, 1), 0);
        due("tick 5", () -> x.ticks(1), 1);
        due("no quiet time then", () -> x.ticks(1), 1);
        due("rows are empty", () -> x.about(2), 0);
        due("last was 1", () -> x.shout(0, 1), 1);
        due("in tick 6", () -> x.shout(0, 2), 6);

        ShoutGates apart = loaded("L15001519t000t001t102t103t104o00o12n1");
        due("waiting in two rows", () -> apart.about(2), 3);

        ShoutGates two = loaded("L15001510t000t001t102t103o00o12n1");
        due("two gates in one tick", () -> two.about(1), 2);
        due("the lower one first", () -> two.shout(1, 0), 0);
        due("the higher one last", () -> two.shout(0, 0), 2);
        due("same tick", () -> two.shout(0, 2) - two.shout(1, 2), 0);
    }

    private static void tickOutAndIn() {
        ShoutGates x = loaded("L15000019t000t001t002o00n2r0");
        due("two wait", () -> x.gate(0, 2), 2);
        x.ticks(2);
        due("at -3 they wait", () -> x.gate(0, 2), 2);
        x.ticks(1);
        due("inside they are forgotten", () -> x.gate(0, 2), 0);
        due("and the reads", () -> x.book(1, 2), 0);
        due("and that it was told", () -> x.book(0, 3), 0);
        due("not the shouts", () -> x.book(0, 4), 1);
        due("no one is caught inside", () -> x.about(3), 0);

        ShoutGates again = loaded("L15000019t000t001o00n9");
        due("caught", () -> again.about(3), 2);
        due("outside one waits still", () -> again.gate(0, 2), 1);
        again.walk(0, 2, false);
        again.turn(0);
        again.ticks(1);
        due("caught again each time", () -> again.about(3), 4);
        again.ticks(1);
        due("and shouted outside", () -> again.book(1, 4), 1);

        ShoutGates slipping = loaded("L00000021t000b01t001o00n7");
        due("slipped, but not the borrowed one", () -> slipping.about(4), 1);
        slipping.walk(0, 0, false);
        slipping.turn(0);
        slipping.ticks(1);
        due("slipped again", () -> slipping.about(4), 2);

        ShoutGates others = loaded("L15000019t000t100t101t102o00o10n1");
        // 0 is shouted, 1 and 2 of the other visitor wait; the first comes inside.
        others.turn(0);
        others.ticks(2);
        due("the others' shouts wait on", () -> others.gate(0, 2), 2);
        due("in their row", () -> others.gate(0, 3), 1);
    }

    private static void set() {
        ShoutGates x = new ShoutGates();
        due("set strength", () -> x.set(0, 15), 7);
        due("set strength to 0", () -> x.set(0, 0), 15);
        due("set strength 1", () -> x.set(1, 3), 7);
        due("set strength 2", () -> x.set(2, 4), 7);
        due("set sureness", () -> x.set(3, 3), 2);
        due("set sureness to 1", () -> x.set(3, 1), 3);
        due("set quiet time", () -> x.set(4, 9), 1);
        due("set quiet time to 0", () -> x.set(4, 0), 9);
        due("set the same", () -> x.set(4, 0), 0);
        due("set: 0", () -> x.gate(0, 0), 0);
        due("set: 1", () -> x.gate(1, 0), 3);
        due("set: 2", () -> x.gate(2, 0), 4);
        due("set: sureness", () -> x.about(9), 1);
        due("set: quiet time", () -> x.about(10), 0);
        int[][] bad = {{-1, 1}, {5, 1}, {0, -1}, {0, 16}, {1, 16}, {2, 16}, {2, -1},
            {3, 0}, {3, 4}, {4, -1}, {4, 10}, {Integer.MAX_VALUE, 1}};
        for (int[] pair : bad) {
            due("set " + pair[0] + ", " + pair[1], () -> x.set(pair[0], pair[1]), ARGUMENT);
        }
        due("set: each was an action, also the same", () -> undos(x), 9);
    }

    private static void undo() {
        ShoutGates x = withBooks(1);
        x.walk(0, 0, true);
        x.ticks(50);
        due("undo", x::undo, 2);
        due("undo ticks", () -> x.about(0) + x.about(1) + x.about(3), 0);
        due("undo: at the gate", () -> x.visitor(0, 2), -3);
        due("undo walk", x::undo, 1);
        due("undo: as taken", state(x), state(withBooks(1)));
        due("undo take", x::undo, 0);
        due("undo: as at first", state(x), state(new ShoutGates()));
        due("undo more", x::undo, STATE);
        undoUpToFourteen();
    }

    private static void undoUpToFourteen() {
        ShoutGates x = new ShoutGates();
        for (int i = 1; i <= 20; i++) {
            x.ticks(i);
        }
        due("14 are remembered", x::undo, 13);
        due("the last is taken back", () -> x.about(0), 190);
        for (int i = 12; i >= 0; i--) {
            int left = i;
            due("undo down to " + left, x::undo, left);
        }
        due("the oldest one left", () -> x.about(0), 21);
        due("no older one", x::undo, STATE);
        write(x, "L");
        x.take(0, 3);
        x.save(1);
        x.append('0');
        due("undo with text and slots", x::undo, 0);
        due("undo keeps the text", x::clearText, 2);
        due("undo keeps the slots", () -> x.restore(1), 21);
        due("the slot's state", () -> x.book(3, 0), 0);
    }

    private static void shouted() {
        ShoutGates x = withBooks(2);
        due("shouted on the shelf", () -> x.shouted(19), NONE);
        due("shouted inside", () -> x.shouted(0), NONE);
        x.walk(0, 0, true);
        due("shouted 0", () -> x.shouted(0), 2);
        due("shouted 1", () -> x.shouted(1), 4);
        x.ticks(2);
        due("shouted already", () -> x.shouted(0), NONE);
        due("shouted next", () -> x.shouted(1), 2);
        x.turn(0);
        due("shouted just before it is inside", () -> x.shouted(1), 2);
        due("shouted -1", () -> x.shouted(-1), BOUNDS);
        due("shouted 20", () -> x.shouted(20), BOUNDS);
        ShoutGates row = loaded("L15000019t000t001t002t003t004t005t106t107t108t109t110t111o00o10");
        // The row's k-th is shouted in tick 1 + 10 * k: the tenth in 91, the eleventh in 101.
        due("shouted first", () -> row.shouted(0), 1);
        due("shouted in 91", () -> row.shouted(9), 91);
        due("shouted too late", () -> row.shouted(10), NONE);
        row.ticks(1);
        due("shouted too late by 1", () -> row.shouted(10), NONE);
        row.ticks(1);
        due("shouted in 99", () -> row.shouted(10), 99);
    }

    private static void slips() {
        ShoutGates x = loaded("L00000721t000t101b02t102t203t304o00o11o22n3");
        due("slips", x::slips, 3);
        x.turn(0);
        due("slips without who turned", x::slips, 2);
        x.turn(0);
        x.ticks(4);
        due("what has slipped slips no more", x::slips, 0);
        due("the count stands", () -> x.about(4), 2);
        x.walk(0, 0, false);
        due("not on the way in", x::slips, 0);
        x.turn(0);
        due("but out again", x::slips, 1);
        ShoutGates inside = withBooks(6);
        inside.set(0, 0);
        due("nobody walks", inside::slips, 0);
        inside.walk(0, 0, true);
        inside.set(1, 0);
        due("all six from -3", inside::slips, 63);
    }

    private static void leastStrength() {
        ShoutGates x = withBooks(1);
        due("nobody walks", () -> x.leastStrength(0), 0);
        x.set(1, 0);
        x.set(0, 0);
        x.walk(0, 0, true);
        // Read twice, at -1, 0 or 1: at 0 and at 1, that needs 3; with 2 only at 0.
        due("least strength", () -> x.leastStrength(0), 3);
        // From beside, half of it must be 3.
        due("least strength beside", () -> x.leastStrength(1), 6);
        due("least strength too far", () -> x.leastStrength(2), NONE);
        due("the strength stays", () -> x.gate(0, 0), 0);
        x.set(3, 1);
        due("least strength, one read", () -> x.leastStrength(0), 1);
        due("least strength beside, one read", () -> x.leastStrength(1), 2);
        x.set(3, 3);
        x.ticks(5);
        // Behind 2 only the place 3 is left, and 1 read is not 3.
        due("too late", () -> x.leastStrength(0), NONE);
        due("leastStrength -1", () -> x.leastStrength(-1), BOUNDS);
        due("leastStrength 3", () -> x.leastStrength(3), BOUNDS);
        ShoutGates full = withBooks(6);
        full.set(0, 0);
        full.set(1, 0);
        full.set(2, 0);
        full.set(3, 1);
        full.walk(0, 2, true);
        due("6 books", () -> full.leastStrength(2), 6);
        due("6 books beside", () -> full.leastStrength(1), 12);
        full.set(3, 3);
        due("6 books, three reads", () -> full.leastStrength(2), 8);
        due("6 books, three reads, beside", () -> full.leastStrength(1), NONE);
    }

    private static void bestGate() {
        ShoutGates x = withBooks(2);
        due("all the same", () -> x.bestGate(0), 0);
        x.set(2, 0);
        x.set(1, 0);
        due("2 is read by none", () -> x.bestGate(0), 1);
        x.set(0, 15);
        // Half of 15 reads beside it.
        due("1 is beside 0", () -> x.bestGate(0), 2);
        due("nobody with books", () -> x.bestGate(5), 0);
        String before = state(x);
        due("bestGate again", () -> x.bestGate(0), 2);
        due("bestGate changes nothing", state(x), before);
        due("bestGate -1", () -> x.bestGate(-1), BOUNDS);
        due("bestGate 6", () -> x.bestGate(6), BOUNDS);
        x.walk(0, 0, true);
        due("bestGate at a gate", () -> x.bestGate(0), STATE);
        x.ticks(7);
        due("bestGate outside", () -> x.bestGate(0), STATE);
        // In the long row of gate 0 only the first ten are shouted in 99 ticks, so one more there
        // costs nothing, where at gate 2 it would.
        ShoutGates row = loaded("L15001519t000t001t002t003t004t005t106t107t108t109t110t111t219o00o10n2");
        due("a shout behind the 99th tick does not count", () -> row.bestGate(2), 0);
        due("about the row", () -> row.gate(0, 2), 11);
    }

    private static void runScript() {
        ShoutGates x = loaded("L00000010t000b01t102o00n7o11");
        // Visitor 0 outside with the book 0 that slipped out, 1 at gate 1 with the book 2.
        String before = state(x);
        due("all succeed", () -> x.runScript(3, 120312201051L), 0);
        due("take", () -> x.runScript(1, 12030), NONE);
        due("take with 1 behind", () -> x.runScript(1, 12031), 0);
        due("take of no visitor", () -> x.runScript(1, 16030), 0);
        due("take of no book", () -> x.runScript(1, 12200), 0);
        due("take book 19", () -> x.runScript(1, 15190), NONE);
        due("take twice", () -> x.runScript(2, 1203012030L), 1);
        due("take at a gate", () -> x.runScript(1, 11030), 0);
        due("take and put back", () -> x.runScript(2, 1203020030L), NONE);
        due("put back from the shelf", () -> x.runScript(1, 20030), 0);
        due("borrow", () -> x.runScript(1, 20031), NONE);
        due("borrow, bring back, bring back", () -> x.runScript(3, 200312003220032L), 2);
        due("bring back", () -> x.runScript(1, 20012), NONE);
        due("book command 3", () -> x.runScript(1, 20033), 0);
        due("book command with 1", () -> x.runScript(1, 21031), 0);
        due("borrow of no book", () -> x.runScript(1, 20201), 0);
        due("walk out", () -> x.runScript(1, 32110), NONE);
        due("walk in", () -> x.runScript(1, 30200), NONE);
        due("walk in from inside", () -> x.runScript(1, 32100), 0);
        due("walk k 2", () -> x.runScript(1, 32120), 0);
        due("walk k 2 from outside", () -> x.runScript(1, 30120), 0);
        due("walk with 1 behind", () -> x.runScript(1, 32111), 0);
        due("walk of no visitor", () -> x.runScript(1, 36110), 0);
        due("walk at no gate", () -> x.runScript(1, 32310), 0);
        due("turn", () -> x.runScript(1, 41000), NONE);
        due("turn inside", () -> x.runScript(1, 42000), 0);
        due("turn of no visitor", () -> x.runScript(1, 46000), 0);
        due("turn with a digit", () -> x.runScript(1, 41100), 0);
        due("turn with another digit", () -> x.runScript(1, 41010), 0);
        due("turn with a last digit", () -> x.runScript(1, 41001), 0);
        due("ticks 0", () -> x.runScript(1, 50000), 0);
        due("ticks 1", () -> x.runScript(1, 50001), NONE);
        due("ticks 50", () -> x.runScript(1, 50050), NONE);
        due("ticks 51", () -> x.runScript(1, 50051), 0);
        due("ticks with a digit", () -> x.runScript(1, 50101), 0);
        due("ticks with another digit", () -> x.runScript(1, 51001), 0);
        due("not told", () -> x.runScript(1, 60000), NONE);
        due("told", () -> x.runScript(1, 60001), 0);
        due("told of k 2", () -> x.runScript(1, 60002), 0);
        due("told of no book", () -> x.runScript(1, 60200), 0);
        due("told with a digit", () -> x.runScript(1, 61000), 0);
        due("visitor outside", () -> x.runScript(1, 70002), NONE);
        due("visitor at a gate", () -> x.runScript(1, 71001), NONE);
        due("visitor inside", () -> x.runScript(1, 75000), NONE);
        due("visitor is not", () -> x.runScript(1, 75001), 0);
        due("visitor k 3", () -> x.runScript(1, 75003), 0);
        due("no visitor", () -> x.runScript(1, 76000), 0);
        due("visitor with a digit", () -> x.runScript(1, 75010), 0);
        due("visitor with another digit", () -> x.runScript(1, 75100), 0);
        due("slipped at most 1", () -> x.runScript(1, 80001), NONE);
        due("slipped at most 0", () -> x.runScript(1, 80000), 0);
        due("slipped with a digit", () -> x.runScript(1, 80101), 0);
        due("slipped with another digit", () -> x.runScript(1, 81001), 0);
        due("shouts at least 0", () -> x.runScript(1, 90000), NONE);
        due("shouts at least 1", () -> x.runScript(1, 90001), 0);
        due("shouts with a digit", () -> x.runScript(1, 90100), 0);
        due("shouts with another digit", () -> x.runScript(1, 91000), 0);
        due("no command", () -> x.runScript(1, 0), 0);
        due("zeros before it", () -> x.runScript(2, 12030), 0);
        due("ticks, then slipped", () -> x.runScript(3, 500078000180002L), 1);
        due("largest script of 1", () -> x.runScript(1, 99999L), 0);
        due("largest script of 3", () -> x.runScript(3, 999999999999999L), 0);
        due("n 0", () -> x.runScript(0, 0), ARGUMENT);
        due("n 4", () -> x.runScript(4, 0), ARGUMENT);
        due("n -1", () -> x.runScript(-1, 0), ARGUMENT);
        due("script -1", () -> x.runScript(1, -1), ARGUMENT);
        due("script least", () -> x.runScript(3, Long.MIN_VALUE), ARGUMENT);
        due("6 digits", () -> x.runScript(1, 100000L), ARGUMENT);
        due("11 digits", () -> x.runScript(2, 10000000000L), ARGUMENT);
        due("16 digits", () -> x.runScript(3, 1000000000000000L), ARGUMENT);
        due("script most", () -> x.runScript(3, Long.MAX_VALUE), ARGUMENT);
        due("scripts change nothing", state(x), before);
        ShoutGates told = loaded("L15000010t000o00");
        due("told in a script", () -> told.runScript(3, 500016000190001L), NONE);
        due("not told before", () -> told.runScript(1, 60001), 0);
    }

    private static void simulate() {
        ShoutGates x = new ShoutGates();
        String before = state(x);
        due("simulate 0 turns", () -> x.simulate(1, 0), ARGUMENT);
        due("simulate 100 turns", () -> x.simulate(1, 100), ARGUMENT);
        due("simulate -1 turns", () -> x.simulate(1, -1), ARGUMENT);
        due("simulate changes nothing", state(x), before);
        // The first turns of these seeds, reckoned apart: the seed -299 makes walk(3, 2, ..), -10 makes
        // walk(3, 0, ..), -224 turn(3), and -272 and -284 nothing.
        ShoutGates walking = loaded("L15000010t300");
        due("simulate walk to a weak gate", () -> walking.simulate(-299, 1), 0);
        due("simulate walk to a strong gate", () -> walking.simulate(-10, 1), 10000);
        ShoutGates turning = loaded("L15000010t300o30");
        due("simulate turn", () -> turning.simulate(-224, 1), 0);
        due("simulate 6", () -> turning.simulate(-272, 1), 10000);
        due("simulate 7", () -> turning.simulate(-284, 1), 10000);
        due("simulate a walk that would throw", () -> turning.simulate(-10, 1), 10000);
        // Two turns: take, then walk out with it.
        ShoutGates taking = loaded("L15151510");
        due("simulate 0: take(1, 15), walk(1, 1)", () -> taking.simulate(35, 2), 10000);
        due("simulate 1: take(4, 8), walk(4, 2)", () -> taking.simulate(378, 2), 10000);
        // Seed 4: borrow(0), or bringBack(0), then walk(3, 0, true).
        ShoutGates borrowing = loaded("L15151510t300");
        due("simulate borrow, walk", () -> borrowing.simulate(4, 2), 0);
        borrowing.borrow(0);
        due("simulate bringBack, walk", () -> borrowing.simulate(4, 2), 10000);
        // From outside: walk in, then turn, and be read at 3.
        ShoutGates in = loaded("L00000010t100t301o10o30n7");
        in.set(0, 15);
        in.set(1, 15);
        in.set(2, 15);
        due("simulate 3: walk in by 1, turn", () -> in.simulate(483, 2), 10000);
        due("simulate 4: walk in by 2, turn", () -> in.simulate(180, 2), 10000);
        ShoutGates slipping = loaded("L00000010t300t301o30n6");
        due("simulate slips", () -> slipping.simulate(-272, 1), 2);
        ShoutGates caught = loaded("L15000010t300t301o30n6");
        due("simulate caught, what was shouted before does not count", () -> caught.simulate(-272, 1), 200);
        due("simulate again", () -> caught.simulate(-272, 1), 200);
        // Told in the first tick, so that with two ticks in a turn there would be two shouts.
        ShoutGates slow = loaded("L15000010t300t301o30");
        due("simulate one tick in a turn", () -> slow.simulate(-272, 1), 10000);
        due("simulate two turns, two ticks", () -> slow.simulate(7, 2), 20000);
        due("simulate 99 turns", () -> new ShoutGates().simulate(7, 99) >= 0 ? 1 : 0, 1);
        due("simulate remembers nothing", caught::undo, STATE);
    }

    private static void saveAndRestore() {
        ShoutGates x = withBooks(2);
        x.ticks(5);
        due("save", () -> x.save(1), 5);
        due("save is no action", x::undo, 2);
        due("save is of then", () -> x.about(0), 0);
        x.walk(0, 0, true);
        x.ticks(9);
        String walked = state(x);
        due("save 0", () -> x.save(0), 9);
        due("save -1", () -> x.save(-1), BOUNDS);
        due("save 2", () -> x.save(2), BOUNDS);
        due("restore -1", () -> x.restore(-1), BOUNDS);
        due("restore 2", () -> x.restore(2), BOUNDS);
        due("restore 1", () -> x.restore(1), 5);
        due("restore forgets", x::undo, STATE);
        due("restore: inside", () -> x.visitor(0, 0), 0);
        x.borrow(0);
        x.ticks(3);
        due("restore again", () -> x.restore(1), 5);
        due("the slot keeps it", () -> x.book(0, 1), 0);
        due("restore forgets again", x::undo, STATE);
        write(x, "L07");
        due("restore 0", () -> x.restore(0), 9);
        due("restore keeps the text", x::clearText, 3);
        due("restore: all", state(x), walked);
        due("save over it", () -> x.ticks(1) + x.save(0), 10);
        due("restore it", () -> x.restore(0), 10);
        ShoutGates y = new ShoutGates();
        y.save(0);
        due("restore of the other one", () -> y.restore(1), STATE);
        y.take(0, 0);
        due("a refused restore keeps what is remembered", () -> answer(() -> y.restore(1)).equals(STATE) ? y.undo() : -1, 0);
    }

    private static void lookingChangesNothing() {
        ShoutGates x = loaded("L15070329t000t001b02t102t203o00o11n2o22n1");
        x.ticks(1);
        String before = state(x);
        for (int b = 0; b < 20; b++) {
            x.shouted(b);
        }
        x.slips();
        x.leastStrength(0);
        x.leastStrength(1);
        x.leastStrength(2);
        x.bestGate(5);
        x.runScript(3, 500501503031210L);
        x.simulate(12345, 99);
        due("looking changes nothing", state(x), before);
        due("looking is no action", x::undo, 0);
    }
}
