import java.util.function.IntUnaryOperator;

/** The boundary cases of the promises 6 to 10, what there is, and of what a gate reads. */
public final class LookBoundsTest extends Checks {
    private static final int ALL_BOOKS = (1 << 20) - 1;

    public static void main(String[] args) {
        newLibrary();
        aboutRefused();
        aboutAtItsBounds();
        aboutWaiting();
        bookRefused();
        bookAtItsBounds();
        visitorRefused();
        visitorAtItsBounds();
        gateRefused();
        gateAtItsBounds();
        whatIsReadAsThingsStand();
        whatIsReadInATick();
        whatIsNeverRead();
        shoutRefused();
        shoutsUpToTen();
        end("LookBoundsTest");
    }

    /** The answers to 0, 1, 2 and so on. */
    private static void row(String what, IntUnaryOperator call, int... wanted) {
        for (int i = 0; i < wanted.length; i++) {
            int n = i;
            due(what + " " + n, () -> call.applyAsInt(n), wanted[n]);
        }
    }

    private static void newLibrary() {
        ShoutGates x = new ShoutGates();
        row("new: about", x::about, 0, 0, 0, 0, 0, 0, 0, 0, 0, 2, 1);
        for (int b : new int[] {0, 1, 10, 18, 19}) {
            row("new: book " + b, what -> x.book(b, what), NONE, 0, 0, 0, 0);
        }
        for (int v = 0; v < 6; v++) {
            int n = v;
            row("new: visitor " + n, what -> x.visitor(n, what), 0, NONE, NONE, NONE, 0);
        }
        for (int g = 0; g < 3; g++) {
            int n = g;
            row("new: gate " + n, what -> x.gate(n, what), 7, 0, 0, NONE, 0, 0);
        }
        for (int k = 0; k < 10; k++) {
            int n = k;
            row("new: shout " + n, what -> x.shout(n, what), NONE, NONE, NONE);
        }
    }

    // ---- promise 6

    private static void aboutRefused() {
        for (int what : outside(0, 10)) {
            refused("about " + what, Checks::busy, x -> x.about(what), ARGUMENT);
        }
        int[] wanted = {9, 2, 2, 2, 0, 4, 13, 2, 1, 2, 3};
        for (int i = 0; i <= 10; i++) {
            int what = i;
            looked("about " + what, Checks::busy, x -> x.about(what), wanted[what]);
        }
    }

    private static void aboutAtItsBounds() {
        ShoutGates x = new ShoutGates();
        for (int b = 0; b < 20; b++) {
            x.borrow(b);
            x.take(b / 4, b);
        }
        due("all are borrowed", () -> x.about(5), 20);
        due("all are in bags", () -> x.about(6), 20);
        for (int v = 0; v < 6; v++) {
            x.walk(v, v / 2, true);
        }
        due("all are at gates", () -> x.about(7), 6);
        due("none is outside", () -> x.about(8), 0);
        x.ticks(6);
        due("all are at gates still", () -> x.about(7), 6);
        due("none is outside still", () -> x.about(8), 0);
        x.ticks(1);
        due("none is at a gate", () -> x.about(7), 0);
        due("all are outside", () -> x.about(8), 6);
        due("no borrowed one was caught", () -> x.about(3), 0);
        due("no borrowed one slipped out", () -> x.about(4), 0);
        due("all are in bags outside too", () -> x.about(6), 20);
        ShoutGates all = loaded("L15151510t000t001t002t003t004t105t106t107t108t109t210t211t212t213t214t315t316t317t318t319");
        for (int v = 0; v < 4; v++) {
            all.walk(v, v % 3, true);
        }
        all.ticks(7);
        due("all are caught", () -> all.about(3), 20);
        due("none slipped out", () -> all.about(4), 0);
        ShoutGates none = loaded("L00000030t000t001t002t003t004t105t106t107t108t109t210t211t212t213t214t315t316t317t318t319");
        for (int v = 0; v < 4; v++) {
            none.walk(v, v % 3, true);
        }
        none.ticks(7);
        due("none is caught", () -> none.about(3), 0);
        due("all slipped out", () -> none.about(4), 20);
    }

    /** All 20 books wait in one row, as a shout of the book 0 has made the gate quiet before it came out again. */
    private static void aboutWaiting() {
        String taken = "t101t102t103t104t105t206t207t208t209t210t311t312t313t314t315";
        ShoutGates x = loaded("L15000019t000o00n1r0n2" + taken);
        for (int b = 16; b < 20; b++) {
            x.take(4, b);
        }
        for (int v = 0; v <= 4; v++) {
            x.walk(v, 0, true);
        }
        x.ticks(1);
        due("all 20 wait", () -> x.about(2), 20);
        due("all 20 wait at one gate", () -> x.gate(0, 2), 20);
        due("the first of 20", () -> x.gate(0, 3), 0);
        x.set(4, 0);
        due("quiet up to tick 10, then one a tick", () -> x.ticks(7), 1);
        due("19 wait", () -> x.about(2), 19);
        due("all that wait", () -> x.ticks(19), 19);
        due("none waits", () -> x.about(2), 0);
        due("none waits first", () -> x.gate(0, 3), NONE);
        due("21 shouts", () -> x.about(1), 21);
        due("the last was the last of the row", () -> x.shout(0, 1), 19);
        due("a tick for each", () -> x.shout(9, 1), 10);
        for (int g = 0; g < 3; g++) {
            int gate = g;
            String strengths = "000000".substring(0, 2 * g) + "06" + "000000".substring(2 * g + 2);
            ShoutGates two = loaded("L" + strengths + "19t000t001o0" + g + "n1");
            due("one waits at gate " + gate + " alone", () -> two.about(2), 1);
            due("one waits at gate " + gate, () -> two.gate(gate, 2), 1);
            due("one shout by gate " + gate + " alone", () -> two.about(1), 1);
        }
        due("they wait at all gates", () -> loaded("L06060619t000t001t102t103t204t205o00o11o22n1").about(2), 3);
    }

    // ---- promise 7

    private static void bookRefused() {
        for (int b : outside(0, 19)) {
            for (int what : new int[] {0, 4, -1, 5}) {
                refused("book " + b + ", " + what, Checks::busy, x -> x.book(b, what), BOUNDS);
            }
        }
        for (int b : new int[] {0, 19}) {
            for (int what : outside(0, 4)) {
                refused("book " + b + ", " + what, Checks::busy, x -> x.book(b, what), ARGUMENT);
            }
        }
    }

    private static void bookAtItsBounds() {
        ShoutGates x = busy();
        row("book caught", what -> x.book(0, what), 0, 0, 1, 1, 1);
        row("book borrowed, outside", what -> x.book(1, what), 0, 1, 0, 0, 0);
        row("book waiting, at a gate", what -> x.book(3, what), 1, 0, 1, 1, 0);
        row("book waiting, on the way in", what -> x.book(4, what), 2, 0, 1, 1, 0);
        row("book on the shelf", what -> x.book(17, what), NONE, 0, 0, 0, 0);
        row("book borrowed on the shelf", what -> x.book(19, what), NONE, 1, 0, 0, 0);
        ShoutGates last = new ShoutGates();
        last.take(5, 19);
        due("the last visitor's last book", () -> last.book(19, 0), 5);
        last.take(0, 0);
        due("the first visitor's first book", () -> last.book(0, 0), 0);
        ShoutGates sure = loaded("L15150030t000o00n1");
        // At -2 one book needs 5: the gate 0 reads, and 1 with half of 15.
        row("two reads of three", what -> sure.book(0, what), 0, 0, 2, 0, 0);
        sure.ticks(1);
        row("three reads of three", what -> sure.book(0, what), 0, 0, 3, 1, 1);
        sure.ticks(5);
        row("no more reads", what -> sure.book(0, what), 0, 0, 3, 1, 1);
        sure.walk(0, 0, false);
        sure.ticks(6);
        row("told up to -3", what -> sure.book(0, what), 0, 0, 3, 1, 1);
        sure.ticks(1);
        row("forgotten inside, but the shouts", what -> sure.book(0, what), 0, 0, 0, 0, 1);
        sure.walk(0, 0, true);
        sure.ticks(2);
        row("shouted twice", what -> sure.book(0, what), 0, 0, 3, 1, 2);
    }

    // ---- promise 8

    private static void visitorRefused() {
        for (int v : outside(0, 5)) {
            for (int what : new int[] {0, 4, -1, 5}) {
                refused("visitor " + v + ", " + what, Checks::busy, x -> x.visitor(v, what), BOUNDS);
            }
        }
        for (int v : new int[] {0, 5}) {
            for (int what : outside(0, 4)) {
                refused("visitor " + v + ", " + what, Checks::busy, x -> x.visitor(v, what), ARGUMENT);
            }
        }
    }

    private static void visitorAtItsBounds() {
        ShoutGates x = busy();
        row("visitor outside", what -> x.visitor(0, what), 2, NONE, NONE, NONE, 3);
        row("visitor on the way out", what -> x.visitor(1, what), 1, 2, -1, 1, 12);
        row("visitor on the way in", what -> x.visitor(2, what), 1, 1, 1, 0, 16);
        row("visitor with 6 books", what -> x.visitor(3, what), 0, NONE, NONE, NONE, 0b111111 << 5);
        row("visitor with none", what -> x.visitor(4, what), 0, NONE, NONE, NONE, 0);
        row("visitor with some", what -> x.visitor(5, what), 0, NONE, NONE, NONE, 1 << 11 | 1 << 13);
        ShoutGates y = new ShoutGates();
        y.take(5, 19);
        y.take(5, 0);
        due("the first and the last book", () -> y.visitor(5, 4), 1 << 19 | 1);
        y.walk(5, 0, true);
        for (int place = -3; place <= 3; place++) {
            row("visitor out at " + place, what -> y.visitor(5, what), 1, 0, place, 1, 1 << 19 | 1);
            y.ticks(1);
        }
        row("visitor above 3", what -> y.visitor(5, what), 2, NONE, NONE, NONE, 1 << 19 | 1);
        y.ticks(50);
        row("visitor outside stays", what -> y.visitor(5, what), 2, NONE, NONE, NONE, 1 << 19 | 1);
        y.walk(5, 2, false);
        for (int place = 3; place >= -3; place--) {
            row("visitor in at " + place, what -> y.visitor(5, what), 1, 2, place, 0, 1 << 19 | 1);
            y.ticks(1);
        }
        row("visitor below -3", what -> y.visitor(5, what), 0, NONE, NONE, NONE, 1 << 19 | 1);
        y.ticks(50);
        row("visitor inside stays", what -> y.visitor(5, what), 0, NONE, NONE, NONE, 1 << 19 | 1);
    }

    // ---- promise 9

    private static void gateRefused() {
        for (int g : outside(0, 2)) {
            for (int what : new int[] {0, 5, -1, 6}) {
                refused("gate " + g + ", " + what, Checks::busy, x -> x.gate(g, what), BOUNDS);
            }
        }
        for (int g : new int[] {0, 2}) {
            for (int what : outside(0, 5)) {
                refused("gate " + g + ", " + what, Checks::busy, x -> x.gate(g, what), ARGUMENT);
            }
        }
    }

    private static void gateAtItsBounds() {
        ShoutGates x = busy();
        // 2 at gate 1 needs 3, 1 at gate 2 needs 4: 7 halved is 3, 15 halved 7.
        row("gate 0", what -> x.gate(0, what), 15, 1, 1, 4, 1, 1 << 4);
        row("gate 1", what -> x.gate(1, what), 7, 0, 0, NONE, 0, 1 << 4);
        row("gate 2", what -> x.gate(2, what), 15, 8, 1, 3, 1, 1 << 2 | 1 << 3 | 1 << 4);
        ShoutGates many = loaded("L15000010t000t001t002t003t004t105t106t107t108t109t210t211t212t213t214t315t316t317t318t319");
        for (int v = 0; v < 4; v++) {
            many.walk(v, 0, true);
        }
        many.set(0, 10);
        due("no bag is read: 5 books at -3 need 11", () -> many.gate(0, 5), 0);
        many.set(0, 11);
        due("all 20 are read", () -> many.gate(0, 5), ALL_BOOKS);
        many.ticks(1);
        due("19 wait, as one was shouted", () -> many.gate(0, 2), 19);
        due("1 is the first of them", () -> many.gate(0, 3), 1);
        for (int q = 0; q <= 9; q++) {
            int quiet = q;
            ShoutGates y = loaded("L1500001" + quiet + "t000o00n1");
            due("quiet for " + quiet, () -> y.gate(0, 1), quiet);
            for (int left = quiet - 1; left >= 0; left--) {
                y.ticks(1);
                int l = left;
                due("quiet for " + quiet + ", then " + l, () -> y.gate(0, 1), l);
            }
            y.ticks(1);
            due("quiet time " + quiet + " is never less than 0", () -> y.gate(0, 1), 0);
        }
    }

    /** Visitor 0 with so many books at the gate, come so far out, where no gate could read it. */
    private static ShoutGates at(int g, int place, int books) {
        ShoutGates x = withBooks(books);
        for (int i = 0; i < 3; i++) {
            x.set(i, 0);
        }
        x.walk(0, g, true);
        if (place > -3) {
            x.ticks(place + 3);
        }
        return x;
    }

    private static void strengthNeeded(String what, ShoutGates x, int g, int need, int books) {
        if (need > 15) {
            x.set(g, 15);
            due(what + " is too far for gate " + g, () -> x.gate(g, 5), 0);
        } else {
            x.set(g, need);
            due(what + " is read by gate " + g + " of " + need, () -> x.gate(g, 5), (1 << books) - 1);
            x.set(g, need - 1);
            due(what + " is not read by gate " + g + " of " + (need - 1), () -> x.gate(g, 5), 0);
        }
        x.set(g, 0);
    }

    private static void whatIsReadAsThingsStand() {
        for (int place = -3; place <= 3; place++) {
            for (int books = 1; books <= 6; books++) {
                int need = 2 * Math.abs(place) + books;
                for (int turns = 0; turns < 2; turns++) {
                    ShoutGates x = at(1, place, books);
                    if (turns == 1) {
                        x.turn(0);
                    }
                    String what = books + " books at " + place + (turns == 1 ? " on the way in" : "");
                    strengthNeeded(what, x, 1, need, books);
                    strengthNeeded(what, x, 0, 2 * need, books);
                    strengthNeeded(what, x, 2, 2 * need, books);
                }
            }
        }
    }

    /** The reads that one more tick brings to a place, with one gate of this strength and a sureness of 3. */
    private static void readsInTick(int gateOfVisitor, int g, int place, int books, int strength, int want) {
        ShoutGates x = at(gateOfVisitor, place - 1, books);
        x.set(3, 3);
        x.set(g, strength);
        x.ticks(1);
        due("reads by gate " + g + " of " + strength + " of " + books + " books at " + place, () -> x.book(0, 2), want);
        due("reads of the last one too", () -> x.book(books - 1, 2), want);
        due("one read is not three", () -> x.book(0, 3), 0);
    }

    private static void whatIsReadInATick() {
        for (int place = -2; place <= 3; place++) {
            for (int books = 1; books <= 6; books++) {
                int need = 2 * Math.abs(place) + books;
                readsInTick(0, 0, place, books, need, 1);
                readsInTick(0, 0, place, books, need - 1, 0);
                readsInTick(2, 2, place, books, need, 1);
                readsInTick(2, 2, place, books, need - 1, 0);
                if (2 * need <= 15) {
                    readsInTick(0, 1, place, books, 2 * need, 1);
                    readsInTick(1, 2, place, books, 2 * need, 1);
                }
                if (2 * need - 1 <= 15) {
                    readsInTick(0, 1, place, books, 2 * need - 1, 0);
                    readsInTick(1, 0, place, books, 2 * need - 1, 0);
                } else {
                    readsInTick(2, 1, place, books, 15, 0);
                }
            }
        }
    }

    private static void whatIsNeverRead() {
        for (int place = -3; place <= 3; place++) {
            ShoutGates first = at(0, place, 1);
            first.set(2, 15);
            due("gate 2 never reads at gate 0", () -> first.gate(2, 5), 0);
            ShoutGates last = at(2, place, 1);
            last.set(0, 15);
            due("gate 0 never reads at gate 2", () -> last.gate(0, 5), 0);
        }
        ShoutGates empty = new ShoutGates();
        empty.set(0, 15);
        due("nobody is at a gate", () -> empty.gate(0, 5), 0);
        empty.walk(0, 0, true);
        empty.ticks(3);
        due("an empty bag at 0", () -> empty.gate(0, 5), 0);
        empty.take(1, 0);
        due("a bag inside", () -> empty.gate(0, 5), 0);
        ShoutGates outside = withBooks(1);
        outside.set(0, 15);
        outside.walk(0, 0, true);
        outside.ticks(6);
        due("a bag at 3", () -> outside.gate(0, 5), 1);
        outside.ticks(1);
        due("a bag outside", () -> outside.gate(0, 5), 0);
        ShoutGates in = loaded("L00000010t000o00n7i00n6");
        in.set(0, 15);
        due("a bag at -3", () -> in.gate(0, 5), 1);
        in.ticks(1);
        due("a bag inside again", () -> in.gate(0, 5), 0);
        due("nothing was read on the way in", () -> in.book(0, 2), 0);
        // A borrowed book counts in the bag, and is read as things stand, but has no reads.
        ShoutGates borrowed = at(0, -1, 2);
        borrowed.set(0, 3);
        due("2 books at -1 need 4", () -> borrowed.gate(0, 5), 0);
        ShoutGates one = loaded("L04000010t000t001b01o00n2");
        due("a borrowed one is read", () -> one.gate(0, 5), 3);
        due("but it has no read", () -> one.book(1, 2), 0);
        due("the other one has", () -> one.book(0, 2), 1);
        one.set(0, 3);
        due("a borrowed one weighs", () -> one.gate(0, 5), 0);
    }

    // ---- promise 10

    private static void shoutRefused() {
        for (int k : outside(0, 9)) {
            for (int what : new int[] {0, 2, -1, 3}) {
                refused("shout " + k + ", " + what, Checks::busy, x -> x.shout(k, what), ARGUMENT);
            }
        }
        for (int k : new int[] {0, 2, 9}) {
            for (int what : outside(0, 2)) {
                refused("shout " + k + ", " + what, Checks::busy, x -> x.shout(k, what), ARGUMENT);
                refused("shout " + k + ", " + what + " without shouts", ShoutGates::new, x -> x.shout(k, what), ARGUMENT);
            }
        }
        ShoutGates x = busy();
        row("the last one", what -> x.shout(0, what), 2, 2, 8);
        row("the one before it", what -> x.shout(1, what), 0, 0, 1);
        row("there were two", what -> x.shout(2, what), NONE, NONE, NONE);
    }

    private static void shoutsUpToTen() {
        ShoutGates x = loaded("L15000010t000t001t002t003t004t005t106t107t108t109t110t111o00o10");
        // All 12 are told in tick 1, and the book n is shouted in tick n + 1.
        for (int shouts = 1; shouts <= 12; shouts++) {
            x.ticks(1);
            int kept = Math.min(shouts, 10);
            row("the last of " + shouts, what -> x.shout(0, what), 0, shouts - 1, shouts);
            row("the first kept of " + shouts, what -> x.shout(kept - 1, what), 0, shouts - kept, shouts - kept + 1);
            if (kept < 10) {
                row("one more than " + shouts, what -> x.shout(kept, what), NONE, NONE, NONE);
            }
        }
        x.ticks(50);
        row("later it is as it was", what -> x.shout(0, what), 0, 11, 12);
        due("all shouts", () -> x.about(1), 12);
    }
}
