import java.util.ArrayDeque;
import java.util.ArrayList;
import java.util.Deque;
import java.util.List;
import java.util.Random;
import java.util.TreeSet;
import java.util.regex.Matcher;
import java.util.regex.Pattern;

/**
 * Runs of calls drawn from fixed seeds, each answer compared with that of a second, plainer library
 * written from the document with objects and lists. No run is longer than the 512 calls that are promised.
 */
public final class ModelTest {
    private static final int RUNS = 6000;
    private static final int CALLS = 512;
    private static final int PICTURE_CALLS = 11 + 100 + 30 + 18 + 30 + 1;

    public static void main(String[] args) {
        int wrong = 0;
        for (int run = 0; run < RUNS && wrong < 5; run++) {
            if (!new Run(run).isRight()) {
                wrong++;
            }
        }
        System.out.println("ModelTest: " + RUNS + " runs, " + wrong + " wrong");
        System.exit(wrong == 0 ? 0 : 1);
    }

    // ---- the plain library

    private static final class Book {
        final int number;
        Visitor holder;
        boolean borrowed;
        int reads;
        boolean told;
        int shouts;

        Book(int number) {
            this.number = number;
        }

        boolean inside() {
            return holder == null || holder.state == 0;
        }
    }

    private static final class Visitor {
        int state;
        int gate;
        int place;
        boolean out;
    }

    private static final class Gate {
        int strength = 7;
        int quiet;
        int shouts;
        List<Integer> row = new ArrayList<>();
    }

    private static final class Plain {
        final List<Book> books = new ArrayList<>();
        final List<Visitor> visitors = new ArrayList<>();
        final List<Gate> gates = new ArrayList<>();
        final List<int[]> log = new ArrayList<>();
        final TreeSet<Integer> slippedBooks = new TreeSet<>();
        int sureness = 2;
        int quietTime = 1;
        int time;
        int caught;
        int slipped;

        Plain() {
            for (int i = 0; i < 20; i++) {
                books.add(new Book(i));
            }
            for (int i = 0; i < 6; i++) {
                visitors.add(new Visitor());
            }
            for (int i = 0; i < 3; i++) {
                gates.add(new Gate());
            }
        }

        Plain copy() {
            Plain other = new Plain();
            for (int i = 0; i < 6; i++) {
                Visitor from = visitors.get(i);
                Visitor to = other.visitors.get(i);
                to.state = from.state;
                to.gate = from.gate;
                to.place = from.place;
                to.out = from.out;
            }
            for (int i = 0; i < 20; i++) {
                Book from = books.get(i);
                Book to = other.books.get(i);
                to.holder = from.holder == null ? null : other.visitors.get(visitors.indexOf(from.holder));
                to.borrowed = from.borrowed;
                to.reads = from.reads;
                to.told = from.told;
                to.shouts = from.shouts;
            }
            for (int i = 0; i < 3; i++) {
                Gate from = gates.get(i);
                Gate to = other.gates.get(i);
                to.strength = from.strength;
                to.quiet = from.quiet;
                to.shouts = from.shouts;
                to.row.addAll(from.row);
            }
            other.log.addAll(log);
            other.sureness = sureness;
            other.quietTime = quietTime;
            other.time = time;
            other.caught = caught;
            other.slipped = slipped;
            return other;
        }

        List<Book> bag(Visitor v) {
            List<Book> bag = new ArrayList<>();
            for (Book b : books) {
                if (b.holder == v) {
                    bag.add(b);
                }
            }
            return bag;
        }

        boolean reads(int g, Book b) {
            Visitor v = b.holder;
            if (v == null || v.state != 1) {
                return false;
            }
            int power = gates.get(g).strength;
            if (v.gate == g - 1 || v.gate == g + 1) {
                power = power / 2;
            } else if (v.gate != g) {
                return false;
            }
            int need = (v.place < 0 ? -v.place : v.place) * 2 + bag(v).size();
            return power >= need;
        }

        void tick() {
            time++;
            for (Visitor v : visitors) {
                if (v.state == 1) {
                    v.place = v.out ? v.place + 1 : v.place - 1;
                    if (v.place == 4) {
                        v.state = 2;
                        for (Book b : bag(v)) {
                            if (!b.borrowed && b.told) {
                                caught++;
                            } else if (!b.borrowed) {
                                slipped++;
                                slippedBooks.add(b.number);
                            }
                        }
                    } else if (v.place == -4) {
                        v.state = 0;
                        for (Book b : bag(v)) {
                            b.reads = 0;
                            b.told = false;
                            for (Gate g : gates) {
                                g.row.remove(Integer.valueOf(b.number));
                            }
                        }
                    }
                }
            }
            for (int g = 0; g < 3; g++) {
                for (Book b : books) {
                    if (reads(g, b) && !b.borrowed && !b.told && b.holder.out) {
                        b.reads++;
                        if (b.reads >= sureness) {
                            b.told = true;
                            gates.get(g).row.add(b.number);
                        }
                    }
                }
            }
            for (int g = 0; g < 3; g++) {
                Gate gate = gates.get(g);
                if (gate.quiet > 0) {
                    gate.quiet--;
                } else if (!gate.row.isEmpty()) {
                    int b = gate.row.remove(0);
                    gate.shouts++;
                    gate.quiet = quietTime;
                    books.get(b).shouts++;
                    log.add(new int[] {g, b, time});
                }
            }
        }

        int pass(int n) {
            int before = log.size();
            for (int i = 0; i < n; i++) {
                tick();
            }
            return log.size() - before;
        }

        Book book(int b) {
            if (b < 0 || b > 19) {
                throw new IndexOutOfBoundsException();
            }
            return books.get(b);
        }

        Visitor visitor(int v) {
            if (v < 0 || v > 5) {
                throw new IndexOutOfBoundsException();
            }
            return visitors.get(v);
        }

        Gate gate(int g) {
            if (g < 0 || g > 2) {
                throw new IndexOutOfBoundsException();
            }
            return gates.get(g);
        }

        static void state(boolean allowed) {
            if (!allowed) {
                throw new IllegalStateException();
            }
        }

        static void argument(boolean allowed) {
            if (!allowed) {
                throw new IllegalArgumentException();
            }
        }

        int take(int v, int b) {
            Visitor visitor = visitor(v);
            Book book = book(b);
            state(book.holder == null && visitor.state == 0 && bag(visitor).size() < 6);
            book.holder = visitor;
            return bag(visitor).size();
        }

        int putBack(int b) {
            Book book = book(b);
            state(book.holder != null && book.inside());
            int v = visitors.indexOf(book.holder);
            book.holder = null;
            return v;
        }

        int borrow(int b) {
            Book book = book(b);
            state(!book.borrowed && book.inside());
            book.borrowed = true;
            return about(5);
        }

        int bringBack(int b) {
            Book book = book(b);
            state(book.borrowed && book.inside());
            book.borrowed = false;
            return about(5);
        }

        int walk(int v, int g, boolean out) {
            Visitor visitor = visitor(v);
            gate(g);
            state(visitor.state == (out ? 0 : 2));
            visitor.state = 1;
            visitor.gate = g;
            visitor.out = out;
            visitor.place = out ? -3 : 3;
            return (int) visitors.stream().filter(w -> w.state == 1 && w.gate == g).count();
        }

        int turn(int v) {
            Visitor visitor = visitor(v);
            state(visitor.state == 1);
            visitor.out = !visitor.out;
            return visitor.out ? 1 : 0;
        }

        int ticks(int n) {
            argument(n >= 1 && n <= 50);
            return pass(n);
        }

        int set(int what, int v) {
            argument(what >= 0 && what <= 4 && v >= (what == 3 ? 1 : 0) && v <= (what < 3 ? 15 : what == 3 ? 3 : 9));
            int previous;
            if (what < 3) {
                previous = gates.get(what).strength;
                gates.get(what).strength = v;
            } else if (what == 3) {
                previous = sureness;
                sureness = v;
            } else {
                previous = quietTime;
                quietTime = v;
            }
            return previous;
        }

        int about(int what) {
            argument(what >= 0 && what <= 10);
            switch (what) {
                case 0: return time;
                case 1: return log.size();
                case 2: return gates.stream().mapToInt(g -> g.row.size()).sum();
                case 3: return caught;
                case 4: return slipped;
                case 5: return (int) books.stream().filter(b -> b.borrowed).count();
                case 6: return (int) books.stream().filter(b -> b.holder != null).count();
                case 7: return (int) visitors.stream().filter(v -> v.state == 1).count();
                case 8: return (int) visitors.stream().filter(v -> v.state == 2).count();
                case 9: return sureness;
                default: return quietTime;
            }
        }

        int bookNumber(int b, int what) {
            Book book = book(b);
            argument(what >= 0 && what <= 4);
            switch (what) {
                case 0: return book.holder == null ? -9 : visitors.indexOf(book.holder);
                case 1: return book.borrowed ? 1 : 0;
                case 2: return book.reads;
                case 3: return book.told ? 1 : 0;
                default: return book.shouts;
            }
        }

        int visitorNumber(int v, int what) {
            Visitor visitor = visitor(v);
            argument(what >= 0 && what <= 4);
            if (what >= 1 && what <= 3 && visitor.state != 1) {
                return -9;
            }
            switch (what) {
                case 0: return visitor.state;
                case 1: return visitor.gate;
                case 2: return visitor.place;
                case 3: return visitor.out ? 1 : 0;
                default: return bag(visitor).stream().mapToInt(b -> 1 << b.number).sum();
            }
        }

        int gateNumber(int g, int what) {
            Gate gate = gate(g);
            argument(what >= 0 && what <= 5);
            switch (what) {
                case 0: return gate.strength;
                case 1: return gate.quiet;
                case 2: return gate.row.size();
                case 3: return gate.row.isEmpty() ? -9 : gate.row.get(0);
                case 4: return gate.shouts;
                default: return books.stream().filter(b -> reads(g, b)).mapToInt(b -> 1 << b.number).sum();
            }
        }

        int shout(int k, int what) {
            argument(k >= 0 && k <= 9 && what >= 0 && what <= 2);
            return k < log.size() ? log.get(log.size() - 1 - k)[what] : -9;
        }

        int shouted(int b) {
            book(b);
            Plain later = copy();
            later.pass(99);
            for (int[] shout : later.log.subList(log.size(), later.log.size())) {
                if (shout[1] == b) {
                    return shout[2] - time;
                }
            }
            return -9;
        }

        int slips() {
            Plain later = copy();
            later.pass(20);
            return later.slippedBooks.stream().mapToInt(b -> 1 << b).sum();
        }

        int leastStrength(int g) {
            gate(g);
            for (int strength = 0; strength < 16; strength++) {
                Plain later = copy();
                later.gates.get(g).strength = strength;
                if (later.slips() == 0) {
                    return strength;
                }
            }
            return -9;
        }

        int bestGate(int v) {
            state(visitor(v).state == 0);
            int[] shouts = new int[3];
            for (int g = 0; g < 3; g++) {
                Plain later = copy();
                later.walk(v, g, true);
                shouts[g] = later.pass(99);
            }
            int fewest = Math.min(shouts[0], Math.min(shouts[1], shouts[2]));
            return shouts[0] == fewest ? 0 : shouts[1] == fewest ? 1 : 2;
        }

        int runScript(int n, long script) {
            argument(n >= 1 && n <= 3 && script >= 0 && Long.toString(script).length() <= 5 * n);
            String digits = String.format("%0" + 5 * n + "d", script);
            Plain later = copy();
            for (int i = 0; i < n; i++) {
                String group = digits.substring(5 * i, 5 * i + 5);
                boolean fine;
                try {
                    fine = later.command(group);
                } catch (IllegalStateException | IllegalArgumentException | IndexOutOfBoundsException e) {
                    fine = false;
                }
                if (!fine) {
                    return i;
                }
            }
            return -9;
        }

        private boolean command(String group) {
            int d2 = group.charAt(1) - '0';
            int d3 = group.charAt(2) - '0';
            int d5 = group.charAt(4) - '0';
            int middle = Integer.parseInt(group.substring(2, 4));
            int last = Integer.parseInt(group.substring(3));
            if (group.matches("1...0")) {
                return take(d2, middle) > 0;
            } else if (group.matches("20..0")) {
                return putBack(middle) >= 0;
            } else if (group.matches("20..1")) {
                return borrow(middle) > 0;
            } else if (group.matches("20..2")) {
                return bringBack(middle) >= 0;
            } else if (group.matches("3..[01]0")) {
                return walk(d2, d3, group.charAt(3) == '1') > 0;
            } else if (group.matches("4.000")) {
                return turn(d2) >= 0;
            } else if (group.matches("500..")) {
                return ticks(last) >= 0;
            } else if (group.matches("60..[01]")) {
                return book(middle).told == (d5 == 1);
            } else if (group.matches("7.00[012]")) {
                return visitor(d2).state == d5;
            } else if (group.matches("800..")) {
                return slipped <= last;
            } else if (group.matches("900..")) {
                return log.size() >= last;
            }
            return false;
        }

        int simulate(long seed, int m) {
            argument(m >= 1 && m <= 99);
            Plain later = copy();
            long x = seed;
            for (int i = 0; i < m; i++) {
                x = x * 6364136223846793005L + 1442695040888963407L;
                int r = (int) (x >>> 33);
                int v = r / 8 % 6;
                int b = r / 64 % 20;
                int g = r / 2048 % 3;
                try {
                    switch (r % 8) {
                        case 0: case 1: later.take(v, b); break;
                        case 2: if (later.books.get(b).borrowed) later.bringBack(b); else later.borrow(b); break;
                        case 3: case 4: later.walk(v, g, later.visitors.get(v).state == 0); break;
                        case 5: later.turn(v); break;
                        default: break;
                    }
                } catch (IllegalStateException e) {
                    // left out, as the document says
                }
                later.tick();
            }
            return 10000 * (later.log.size() - log.size()) + 100 * (later.caught - caught) + later.slipped - slipped;
        }
    }

    // ---- the plain object round it

    private static final class PlainObject {
        private static final String GATES = "L(0[0-9]|1[0-5]){3}[1-3][0-9]";
        private static final String COMMAND =
            "(t[0-5][01][0-9]|[pb][01][0-9]|[oi][0-5][0-2]|r[0-5]|n[1-9])";
        private static final Pattern LIBRARY = Pattern.compile(GATES + COMMAND + "*", Pattern.DOTALL);
        private static final Pattern COMMANDS = Pattern.compile(COMMAND);

        Plain now = new Plain();
        String text = "";
        final Deque<Plain> remembered = new ArrayDeque<>();
        final Plain[] slots = new Plain[2];

        int append(int c) {
            Plain.argument(c >= 0 && c <= 255);
            Plain.state(text.length() < 120);
            text = text + (char) c;
            return text.length();
        }

        int clearText() {
            int length = text.length();
            text = "";
            return length;
        }

        int errorPosition() {
            if (LIBRARY.matcher(text).matches()) {
                return -9;
            }
            for (int end = 1; end <= text.length(); end++) {
                Matcher matcher = LIBRARY.matcher(text.substring(0, end));
                if (!matcher.matches() && !matcher.hitEnd()) {
                    return end - 1;
                }
            }
            return text.length();
        }

        int load() {
            Plain.state(errorPosition() == -9);
            now = new Plain();
            remembered.clear();
            slots[0] = null;
            slots[1] = null;
            for (int g = 0; g < 3; g++) {
                now.gates.get(g).strength = Integer.parseInt(text.substring(1 + 2 * g, 3 + 2 * g));
            }
            now.sureness = text.charAt(7) - '0';
            now.quietTime = text.charAt(8) - '0';
            int leftOut = 0;
            Matcher matcher = COMMANDS.matcher(text.substring(9));
            while (matcher.find()) {
                try {
                    doCommand(matcher.group());
                } catch (IllegalStateException e) {
                    leftOut++;
                }
            }
            return leftOut;
        }

        private void doCommand(String command) {
            int first = command.charAt(1) - '0';
            int last = command.charAt(command.length() - 1) - '0';
            switch (command.charAt(0)) {
                case 't': now.take(first, Integer.parseInt(command.substring(2))); break;
                case 'p': now.putBack(Integer.parseInt(command.substring(1))); break;
                case 'b':
                    int b = Integer.parseInt(command.substring(1));
                    if (now.books.get(b).borrowed) {
                        now.bringBack(b);
                    } else {
                        now.borrow(b);
                    }
                    break;
                case 'o': now.walk(first, last, true); break;
                case 'i': now.walk(first, last, false); break;
                case 'r': now.turn(first); break;
                default: now.ticks(first); break;
            }
        }

        interface Action {
            int on(Plain library);
        }

        /** What a refused action does is done on a copy, so that it can change nothing. */
        int action(Action action) {
            Plain after = now.copy();
            int answer = action.on(after);
            remembered.addLast(now);
            if (remembered.size() > 14) {
                remembered.removeFirst();
            }
            now = after;
            return answer;
        }

        int undo() {
            Plain.state(!remembered.isEmpty());
            now = remembered.removeLast();
            return remembered.size();
        }

        int save(int slot) {
            if (slot != 0 && slot != 1) {
                throw new IndexOutOfBoundsException();
            }
            slots[slot] = now.copy();
            return now.time;
        }

        int restore(int slot) {
            if (slot != 0 && slot != 1) {
                throw new IndexOutOfBoundsException();
            }
            Plain.state(slots[slot] != null);
            now = slots[slot].copy();
            remembered.clear();
            return now.time;
        }
    }

    // ---- a run

    private interface Call {
        int answer();
    }

    private static final class Run {
        final int number;
        final Random random;
        final ShoutGates x = new ShoutGates();
        final PlainObject plain = new PlainObject();
        final StringBuilder told = new StringBuilder();
        final boolean rash;
        int calls;

        Run(int number) {
            this.number = number;
            random = new Random(number);
            rash = number % 4 == 0;
        }

        boolean isRight() {
            if (number % 3 == 0) {
                if (!writeText(1 + random.nextInt(100))) {
                    return false;
                }
            }
            // The last of these may be a text that is looked at and loaded: two calls more than one.
            while (calls < CALLS - PICTURE_CALLS - 2) {
                if (!oneCall()) {
                    return false;
                }
            }
            return pictureIsRight();
        }

        private boolean same(String what, Call mine, Call due) {
            calls++;
            String got = answer(mine);
            String want = answer(due);
            told.append(what).append(" -> ").append(want).append('\n');
            if (got.equals(want)) {
                return true;
            }
            System.out.println("run " + number + ":\n" + told + "answered " + got);
            return false;
        }

        private static String answer(Call call) {
            try {
                return String.valueOf(call.answer());
            } catch (RuntimeException e) {
                return "throws." + e.getClass().getSimpleName();
            }
        }

        /** A number from 0 to below the bound, sometimes one beside it. */
        private int number(int bound) {
            if (random.nextInt(rash ? 10 : 60) == 0) {
                int[] strange = {-1, bound, bound + 1, -9, Integer.MAX_VALUE, Integer.MIN_VALUE};
                return strange[random.nextInt(strange.length)];
            }
            return random.nextInt(bound);
        }

        private String randomText(int length) {
            StringBuilder text = new StringBuilder("L");
            for (int g = 0; g < 3; g++) {
                text.append(String.format("%02d", random.nextInt(16)));
            }
            text.append(1 + random.nextInt(3)).append(random.nextInt(10));
            while (text.length() < length) {
                int v = random.nextInt(6);
                int g = random.nextInt(3);
                String b = String.format("%02d", random.nextInt(20));
                switch (random.nextInt(10)) {
                    case 0: case 1: case 2: text.append('t').append(v).append(b); break;
                    case 3: text.append('p').append(b); break;
                    case 4: text.append('b').append(b); break;
                    case 5: case 6: text.append('o').append(v).append(g); break;
                    case 7: text.append('i').append(v).append(g); break;
                    case 8: text.append('r').append(v); break;
                    default: text.append('n').append(1 + random.nextInt(9)); break;
                }
            }
            if (random.nextInt(3) == 0) {
                text.setLength(random.nextInt(text.length() + 1));
            }
            if (text.length() > 0 && random.nextInt(3) == 0) {
                String signs = "L0123456789tpboirn xT:/";
                text.setCharAt(random.nextInt(text.length()), signs.charAt(random.nextInt(signs.length())));
            }
            return text.toString();
        }

        private boolean writeText(int length) {
            String text = randomText(length);
            for (int i = 0; i < text.length() && calls < CALLS - PICTURE_CALLS - 3; i++) {
                char c = text.charAt(i);
                if (!same("append(" + (int) c + ")", () -> x.append(c), () -> plain.append(c))) {
                    return false;
                }
            }
            return same("errorPosition()", x::errorPosition, plain::errorPosition)
                && same("load()", x::load, plain::load);
        }

        private boolean oneCall() {
            int kind = random.nextInt(100);
            if (kind < 62) {
                return action(kind);
            }
            if (kind < 80) {
                return look();
            }
            return kind < 94 ? foresee() : other();
        }

        private boolean action(int kind) {
            int v = number(6);
            int b = number(20);
            int g = number(3);
            if (kind < 18) {
                return same("take(" + v + ", " + b + ")", () -> x.take(v, b), () -> plain.action(p -> p.take(v, b)));
            } else if (kind < 21) {
                return same("putBack(" + b + ")", () -> x.putBack(b), () -> plain.action(p -> p.putBack(b)));
            } else if (kind < 24) {
                return same("borrow(" + b + ")", () -> x.borrow(b), () -> plain.action(p -> p.borrow(b)));
            } else if (kind < 27) {
                return same("bringBack(" + b + ")", () -> x.bringBack(b), () -> plain.action(p -> p.bringBack(b)));
            } else if (kind < 39) {
                boolean out = random.nextInt(3) > 0;
                return same("walk(" + v + ", " + g + ", " + out + ")", () -> x.walk(v, g, out),
                    () -> plain.action(p -> p.walk(v, g, out)));
            } else if (kind < 43) {
                return same("turn(" + v + ")", () -> x.turn(v), () -> plain.action(p -> p.turn(v)));
            } else if (kind < 57) {
                int n = random.nextInt(20) == 0 ? number(52) : 1 + random.nextInt(4);
                return same("ticks(" + n + ")", () -> x.ticks(n), () -> plain.action(p -> p.ticks(n)));
            } else if (kind < 61) {
                int what = number(5);
                int value = number(what < 3 ? 16 : what == 3 ? 4 : 10);
                return same("set(" + what + ", " + value + ")", () -> x.set(what, value),
                    () -> plain.action(p -> p.set(what, value)));
            }
            return same("undo()", x::undo, plain::undo);
        }

        private boolean look() {
            int what = number(7);
            switch (random.nextInt(5)) {
                case 0:
                    int whole = number(11);
                    return same("about(" + whole + ")", () -> x.about(whole), () -> plain.now.about(whole));
                case 1:
                    int b = number(20);
                    return same("book(" + b + ", " + what + ")", () -> x.book(b, what), () -> plain.now.bookNumber(b, what));
                case 2:
                    int v = number(6);
                    return same("visitor(" + v + ", " + what + ")", () -> x.visitor(v, what),
                        () -> plain.now.visitorNumber(v, what));
                case 3:
                    int g = number(3);
                    return same("gate(" + g + ", " + what + ")", () -> x.gate(g, what), () -> plain.now.gateNumber(g, what));
                default:
                    int k = number(10);
                    return same("shout(" + k + ", " + what + ")", () -> x.shout(k, what), () -> plain.now.shout(k, what));
            }
        }

        private boolean foresee() {
            switch (random.nextInt(6)) {
                case 0:
                    int b = number(20);
                    return same("shouted(" + b + ")", () -> x.shouted(b), () -> plain.now.shouted(b));
                case 1:
                    return same("slips()", x::slips, () -> plain.now.slips());
                case 2:
                    int g = number(3);
                    return same("leastStrength(" + g + ")", () -> x.leastStrength(g), () -> plain.now.leastStrength(g));
                case 3:
                    int v = number(6);
                    return same("bestGate(" + v + ")", () -> x.bestGate(v), () -> plain.now.bestGate(v));
                case 4:
                    int n = random.nextInt(30) == 0 ? number(4) : 1 + random.nextInt(3);
                    long script = script(n);
                    return same("runScript(" + n + ", " + script + ")", () -> x.runScript(n, script),
                        () -> plain.now.runScript(n, script));
                default:
                    int m = random.nextInt(10) == 0 ? number(100) : 1 + random.nextInt(99);
                    long seed = random.nextLong();
                    return same("simulate(" + seed + ", " + m + ")", () -> x.simulate(seed, m),
                        () -> plain.now.simulate(seed, m));
            }
        }

        private long script(int n) {
            if (random.nextInt(40) == 0) {
                return random.nextLong() >> random.nextInt(40);
            }
            long script = 0;
            for (int i = 0; i < n && i < 3; i++) {
                script = script * 100000 + group();
            }
            return script;
        }

        private int group() {
            int v = random.nextInt(20) == 0 ? random.nextInt(10) : random.nextInt(6);
            int b = random.nextInt(20) == 0 ? random.nextInt(100) : random.nextInt(20);
            int g = random.nextInt(20) == 0 ? random.nextInt(10) : random.nextInt(3);
            int stray = random.nextInt(25) == 0 ? random.nextInt(10) : 0;
            switch (random.nextInt(11)) {
                case 0: return 10000 + 1000 * v + 10 * b + stray;
                case 1: return 20000 + 1000 * stray + 10 * b + random.nextInt(4);
                case 2: return 30000 + 1000 * v + 100 * g + 10 * random.nextInt(3) + stray;
                case 3: return 40000 + 1000 * v + 100 * stray;
                case 4: return 40000 + 1000 * v + stray;
                case 5: return 50000 + 100 * stray + (random.nextInt(4) == 0 ? random.nextInt(100) : random.nextInt(9));
                case 6: return 60000 + 1000 * stray + 10 * b + random.nextInt(2) + stray;
                case 7: return 70000 + 1000 * v + 10 * stray + random.nextInt(4);
                case 8: return 80000 + 100 * stray + random.nextInt(12);
                case 9: return 90000 + 100 * stray + random.nextInt(12);
                default: return random.nextInt(100000);
            }
        }

        private boolean other() {
            int slot = number(2);
            switch (random.nextInt(10)) {
                case 0: case 1: case 2:
                    return same("save(" + slot + ")", () -> x.save(slot), () -> plain.save(slot));
                case 3: case 4:
                    return same("restore(" + slot + ")", () -> x.restore(slot), () -> plain.restore(slot));
                case 5:
                    return same("clearText()", x::clearText, plain::clearText);
                case 6:
                    int c = number(256);
                    return same("append(" + c + ")", () -> x.append(c), () -> plain.append(c));
                case 7:
                    return same("errorPosition()", x::errorPosition, plain::errorPosition);
                case 8:
                    return random.nextInt(6) > 0 || same("load()", x::load, plain::load);
                default:
                    return random.nextInt(4) > 0 || writeText(1 + random.nextInt(50));
            }
        }

        private boolean pictureIsRight() {
            boolean right = same("errorPosition()", x::errorPosition, plain::errorPosition);
            for (int i = 0; i < 11; i++) {
                int what = i;
                right = right && same("about " + i, () -> x.about(what), () -> plain.now.about(what));
            }
            for (int i = 0; i < 100; i++) {
                int b = i / 5;
                int what = i % 5;
                right = right && same("book " + b + " " + what, () -> x.book(b, what), () -> plain.now.bookNumber(b, what));
            }
            for (int i = 0; i < 30; i++) {
                int v = i / 5;
                int what = i % 5;
                right = right
                    && same("visitor " + v + " " + what, () -> x.visitor(v, what), () -> plain.now.visitorNumber(v, what));
            }
            for (int i = 0; i < 18; i++) {
                int g = i / 6;
                int what = i % 6;
                right = right && same("gate " + g + " " + what, () -> x.gate(g, what), () -> plain.now.gateNumber(g, what));
            }
            for (int i = 0; i < 30; i++) {
                int k = i / 3;
                int what = i % 3;
                right = right && same("shout " + k + " " + what, () -> x.shout(k, what), () -> plain.now.shout(k, what));
            }
            return right;
        }
    }
}
