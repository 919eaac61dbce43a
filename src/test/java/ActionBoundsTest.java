import java.util.function.ToIntFunction;

/** The boundary cases of the promises 11 to 19: the actions, and undo. */
public final class ActionBoundsTest extends Checks {
    public static void main(String[] args) {
        takeRefused();
        takeUpToSix();
        putBackRefused();
        putBackAll();
        borrowRefused();
        borrowAll();
        bringBackRefused();
        bringBackAll();
        walkRefused();
        walkAll();
        turnRefused();
        turnAtBothEnds();
        ticksRefused();
        ticksAtTheirBounds();
        setRefused();
        setAtItsBounds();
        eachActionIsTakenBack();
        upToFourteenStates();
        undoRefused();
        whatUndoIsNot();
        end("ActionBoundsTest");
    }

    /** Visitor 0 at the gate 0 at -3, with the book 0 that is borrowed and the book 1 that is not. */
    private static ShoutGates justWalked() {
        return loaded(HEAD + "b00t000t001o00");
    }

    // ---- promise 11

    private static void takeRefused() {
        for (int v : outside(0, 5)) {
            for (int b : new int[] {12, 0, -1, 20}) {
                refused("take " + v + ", " + b, Checks::busy, x -> x.take(v, b), BOUNDS);
            }
        }
        for (int b : outside(0, 19)) {
            for (int v : new int[] {4, 3, 0, 1}) {
                refused("take " + v + ", " + b, Checks::busy, x -> x.take(v, b), BOUNDS);
            }
        }
        refused("take out of the own bag", Checks::busy, x -> x.take(5, 11), STATE);
        refused("take out of another bag inside", Checks::busy, x -> x.take(4, 5), STATE);
        refused("take out of a bag at a gate", Checks::busy, x -> x.take(4, 2), STATE);
        refused("take out of a bag outside", Checks::busy, x -> x.take(4, 0), STATE);
        refused("take outside", Checks::busy, x -> x.take(0, 12), STATE);
        refused("take on the way out", Checks::busy, x -> x.take(1, 12), STATE);
        refused("take on the way in", Checks::busy, x -> x.take(2, 12), STATE);
        refused("take with 6 books", Checks::busy, x -> x.take(3, 12), STATE);
        refused("take with 6 books, the last one", Checks::busy, x -> x.take(3, 19), STATE);
        refused("take at -3, just walked", ActionBoundsTest::justWalked, x -> x.take(0, 2), STATE);
        refused("take at -3 on the way in", () -> loaded(HEAD + "o00n7i00n6"), x -> x.take(0, 2), STATE);
        due("take inside again", () -> loaded(HEAD + "o00n7i00n7").take(0, 2), 1);
    }

    private static void takeUpToSix() {
        int[][] pairs = {{0, 0}, {5, 19}, {0, 19}, {5, 0}};
        for (int[] pair : pairs) {
            due("take " + pair[0] + ", " + pair[1], () -> new ShoutGates().take(pair[0], pair[1]), 1);
        }
        ShoutGates x = new ShoutGates();
        for (int books = 1; books <= 6; books++) {
            int n = books;
            due("take number " + n, () -> x.take(0, 20 - n), n);
        }
        due("take number 7", () -> x.take(0, 0), STATE);
        due("another takes it", () -> x.take(1, 0), 1);
        x.putBack(19);
        due("the sixth again", () -> x.take(0, 19), 6);
        due("a borrowed one", () -> busy().take(4, 18), 1);
    }

    // ---- promise 12

    private static void putBackRefused() {
        for (int b : outside(0, 19)) {
            refused("putBack " + b, Checks::busy, x -> x.putBack(b), BOUNDS);
        }
        refused("putBack from the shelf", Checks::busy, x -> x.putBack(12), STATE);
        refused("putBack of a borrowed one from the shelf", Checks::busy, x -> x.putBack(19), STATE);
        refused("putBack on the way out", Checks::busy, x -> x.putBack(2), STATE);
        refused("putBack on the way in", Checks::busy, x -> x.putBack(4), STATE);
        refused("putBack outside", Checks::busy, x -> x.putBack(0), STATE);
        refused("putBack of a borrowed one outside", Checks::busy, x -> x.putBack(1), STATE);
        refused("putBack at -3, just walked", ActionBoundsTest::justWalked, x -> x.putBack(1), STATE);
        refused("putBack at -3 on the way in", () -> loaded(HEAD + "t000o00n7i00n6"), x -> x.putBack(0), STATE);
        due("putBack inside again", () -> loaded(HEAD + "t500o50n7i50n7").putBack(0), 5);
    }

    private static void putBackAll() {
        ShoutGates x = withBooks(6);
        x.take(5, 19);
        for (int b = 5; b >= 0; b--) {
            int n = b;
            due("putBack " + n, () -> x.putBack(n), 0);
            due("putBack " + n + " again", () -> x.putBack(n), STATE);
        }
        due("the bag is empty", () -> x.visitor(0, 4), 0);
        due("the other is not", () -> x.visitor(5, 4), 1 << 19);
        due("putBack 19", () -> x.putBack(19), 5);
        due("no book is in a bag", () -> x.about(6), 0);
        due("putBack of a borrowed one", () -> busy().putBack(11), 5);
        ShoutGates forgotten = loaded("L15000019t000t001o00n1r0n2");
        forgotten.putBack(1);
        due("what was read is forgotten on the shelf", () -> forgotten.book(1, 2) + forgotten.book(1, 3), 0);
    }

    // ---- promise 13

    private static void borrowRefused() {
        for (int b : outside(0, 19)) {
            refused("borrow " + b, Checks::busy, x -> x.borrow(b), BOUNDS);
        }
        refused("borrow a borrowed one on the shelf", Checks::busy, x -> x.borrow(18), STATE);
        refused("borrow a borrowed one in a bag", Checks::busy, x -> x.borrow(11), STATE);
        refused("borrow a borrowed one outside", Checks::busy, x -> x.borrow(1), STATE);
        refused("borrow outside", Checks::busy, x -> x.borrow(0), STATE);
        refused("borrow on the way out", Checks::busy, x -> x.borrow(2), STATE);
        refused("borrow on the way in", Checks::busy, x -> x.borrow(4), STATE);
        refused("borrow at -3, just walked", ActionBoundsTest::justWalked, x -> x.borrow(1), STATE);
        refused("borrow at -3 on the way in", () -> loaded(HEAD + "t000o00n7i00n6"), x -> x.borrow(0), STATE);
        due("borrow inside again", () -> loaded(HEAD + "t000o00n7i00n7").borrow(0), 1);
    }

    private static void borrowAll() {
        ShoutGates x = withBooks(6);
        for (int b = 0; b < 20; b++) {
            int n = b;
            due("borrow " + n, () -> x.borrow(n), n + 1);
            due("borrow " + n + " again", () -> x.borrow(n), STATE);
        }
        due("all are borrowed", () -> x.about(5), 20);
        due("borrow of the last one", () -> new ShoutGates().borrow(19), 1);
        due("borrow in a bag", () -> busy().borrow(5), 5);
        due("borrow on the shelf", () -> busy().borrow(17), 5);
    }

    // ---- promise 14

    private static void bringBackRefused() {
        for (int b : outside(0, 19)) {
            refused("bringBack " + b, Checks::busy, x -> x.bringBack(b), BOUNDS);
        }
        refused("bringBack from the shelf", Checks::busy, x -> x.bringBack(17), STATE);
        refused("bringBack from a bag", Checks::busy, x -> x.bringBack(5), STATE);
        refused("bringBack at a gate", Checks::busy, x -> x.bringBack(2), STATE);
        refused("bringBack outside", Checks::busy, x -> x.bringBack(0), STATE);
        refused("bringBack a borrowed one outside", Checks::busy, x -> x.bringBack(1), STATE);
        refused("bringBack a borrowed one at -3, just walked", ActionBoundsTest::justWalked, x -> x.bringBack(0), STATE);
        refused("bringBack at -3 on the way in", () -> loaded(HEAD + "b00t000o00n7i00n6"), x -> x.bringBack(0), STATE);
        due("bringBack inside again", () -> loaded(HEAD + "b00t000o00n7i00n7").bringBack(0), 0);
    }

    private static void bringBackAll() {
        ShoutGates x = withBooks(6);
        for (int b = 0; b < 20; b++) {
            x.borrow(b);
        }
        for (int b = 0; b < 20; b++) {
            int n = b;
            due("bringBack " + n, () -> x.bringBack(n), 19 - n);
            due("bringBack " + n + " again", () -> x.bringBack(n), STATE);
        }
        due("none is borrowed", () -> x.about(5), 0);
        due("bringBack from a bag", () -> busy().bringBack(11), 3);
        due("bringBack from the shelf", () -> busy().bringBack(19), 3);
    }

    // ---- promise 15

    private static void walkRefused() {
        for (boolean out : new boolean[] {true, false}) {
            for (int v : outside(0, 5)) {
                for (int g : new int[] {0, 2, -1, 3}) {
                    refused("walk " + v + ", " + g + ", " + out, Checks::busy, x -> x.walk(v, g, out), BOUNDS);
                }
            }
            for (int g : outside(0, 2)) {
                for (int v : new int[] {0, 1, 2, 3}) {
                    refused("walk " + v + ", " + g + ", " + out, Checks::busy, x -> x.walk(v, g, out), BOUNDS);
                }
            }
            refused("walk from a gate, " + out, Checks::busy, x -> x.walk(1, 2, out), STATE);
            refused("walk from a gate where it comes in, " + out, Checks::busy, x -> x.walk(2, 0, out), STATE);
            refused("walk from -3, " + out, ActionBoundsTest::justWalked, x -> x.walk(0, 0, out), STATE);
            refused("walk from 3, " + out, () -> loaded(HEAD + "o00n6"), x -> x.walk(0, 0, out), STATE);
        }
        refused("walk out from outside", Checks::busy, x -> x.walk(0, 0, true), STATE);
        refused("walk in from inside", Checks::busy, x -> x.walk(3, 2, false), STATE);
        refused("walk in at the very first", ShoutGates::new, x -> x.walk(0, 0, false), STATE);
    }

    private static void walkAll() {
        for (int g = 0; g < 3; g++) {
            int gate = g;
            ShoutGates x = new ShoutGates();
            for (int v = 0; v < 6; v++) {
                int n = v;
                due("walk out " + n + " at " + gate, () -> x.walk(n, gate, true), n + 1);
                due("walk out " + n + ": the place", () -> x.visitor(n, 2), -3);
                due("walk out " + n + ": the way", () -> x.visitor(n, 3), 1);
            }
            x.ticks(7);
            for (int v = 5; v >= 0; v--) {
                int n = v;
                due("walk in " + n + " at " + gate, () -> x.walk(n, gate, false), 6 - n);
                due("walk in " + n + ": the place", () -> x.visitor(n, 2), 3);
                due("walk in " + n + ": the way", () -> x.visitor(n, 3), 0);
            }
        }
        // Those at the gate count whichever way they go, and those at other gates don't.
        due("walk to one on the way out", () -> busy().walk(3, 2, true), 2);
        due("walk to one on the way in", () -> busy().walk(3, 1, true), 2);
        due("walk to none", () -> busy().walk(3, 0, true), 1);
        due("walk in to one", () -> busy().walk(0, 2, false), 2);
    }

    // ---- promise 16

    private static void turnRefused() {
        for (int v : outside(0, 5)) {
            refused("turn " + v, Checks::busy, x -> x.turn(v), BOUNDS);
        }
        refused("turn inside", Checks::busy, x -> x.turn(3), STATE);
        refused("turn outside", Checks::busy, x -> x.turn(0), STATE);
        refused("turn at the very first", ShoutGates::new, x -> x.turn(5), STATE);
        refused("turn just outside", () -> loaded(HEAD + "o00n7"), x -> x.turn(0), STATE);
        refused("turn just inside", () -> loaded(HEAD + "o00n7i00n7"), x -> x.turn(0), STATE);
    }

    private static void turnAtBothEnds() {
        due("turn in", () -> busy().turn(1), 0);
        due("turn out", () -> busy().turn(2), 1);
        ShoutGates low = justWalked();
        due("turn at -3", () -> low.turn(0), 0);
        due("turn stays at -3", () -> low.visitor(0, 2), -3);
        low.ticks(1);
        due("turned at -3 it is inside at once", () -> low.visitor(0, 0), 0);
        ShoutGates lowAgain = loaded(HEAD + "o00n7i00n6");
        due("turn at -3 on the way in", () -> lowAgain.turn(0), 1);
        lowAgain.ticks(1);
        due("then it is at -2", () -> lowAgain.visitor(0, 2), -2);
        ShoutGates high = loaded(HEAD + "o00n7i00");
        due("turn at 3", () -> high.turn(0), 1);
        due("turn stays at 3", () -> high.visitor(0, 2), 3);
        high.ticks(1);
        due("turned at 3 it is outside at once", () -> high.visitor(0, 0), 2);
        ShoutGates highAgain = loaded(HEAD + "o50n6");
        due("turn at 3 on the way out", () -> highAgain.turn(5), 0);
        highAgain.ticks(1);
        due("then it is at 2", () -> highAgain.visitor(5, 2), 2);
    }

    // ---- promise 17

    private static void ticksRefused() {
        for (int n : outside(1, 50)) {
            refused("ticks " + n, Checks::busy, x -> x.ticks(n), ARGUMENT);
            refused("ticks " + n + " at first", ShoutGates::new, x -> x.ticks(n), ARGUMENT);
        }
    }

    private static void ticksAtTheirBounds() {
        due("1 tick, no shout", () -> busy().ticks(1), 0);
        due("2 ticks, a shout", () -> busy().ticks(2), 1);
        due("9 ticks, one gate is quiet still", () -> busy().ticks(8), 1);
        due("9 ticks, both have shouted", () -> busy().ticks(9), 2);
        due("50 ticks", () -> busy().ticks(50), 2);
        ShoutGates one = busy();
        one.ticks(1);
        due("1 tick more", () -> one.about(0), 10);
        ShoutGates fifty = busy();
        fifty.ticks(50);
        due("50 ticks more", () -> fifty.about(0), 59);
        ShoutGates single = busy();
        for (int i = 0; i < 50; i++) {
            single.ticks(1);
        }
        due("50 ticks are 50 times one", state(fifty), state(single));
        // At -2 one book needs 5: of 5 a gate reads its own visitor alone, of 15 those beside it too.
        due("shouts of three gates in a tick", () -> loaded("L05050510t000t101t202o00o11o22").ticks(1), 3);
        due("shouts of two gates in a tick", () -> loaded("L15151510t000t101t202o00o11o22").ticks(1), 2);
        ShoutGates many = loaded("L15000010t000t001t002t003t004t005t106t107t108t109t110t111o00o10");
        due("a shout in each tick", () -> many.ticks(12), 12);
        due("no more", () -> many.ticks(50), 0);
    }

    // ---- promise 18

    private static void setRefused() {
        for (int what : outside(0, 4)) {
            for (int v : new int[] {0, 1, 3, 9}) {
                refused("set " + what + ", " + v, Checks::busy, x -> x.set(what, v), ARGUMENT);
            }
        }
        for (int what = 0; what <= 4; what++) {
            int setting = what;
            for (int v : outside(what == 3 ? 1 : 0, what < 3 ? 15 : what == 3 ? 3 : 9)) {
                refused("set " + setting + ", " + v, Checks::busy, x -> x.set(setting, v), ARGUMENT);
            }
        }
        refused("set nothing to nothing", Checks::busy, x -> x.set(5, 16), ARGUMENT);
    }

    private static int setting(ShoutGates x, int what) {
        return what < 3 ? x.gate(what, 0) : x.about(what + 6);
    }

    private static void setAtItsBounds() {
        int[][] bounds = {{0, 15}, {0, 15}, {0, 15}, {1, 3}, {0, 9}};
        int[] first = {7, 7, 7, 2, 1};
        for (int what = 0; what <= 4; what++) {
            int s = what;
            ShoutGates x = new ShoutGates();
            int previous = first[s];
            for (int v : new int[] {bounds[s][0], bounds[s][1], bounds[s][1], bounds[s][0]}) {
                int before = previous;
                due("set " + s + " to " + v, () -> x.set(s, v), before);
                due("setting " + s + " of " + v, () -> setting(x, s), v);
                previous = v;
            }
            for (int other = 0; other <= 4; other++) {
                int o = other;
                due("set " + s + " leaves " + o, () -> setting(x, o), o == s ? bounds[s][0] : first[o]);
            }
            due("set " + s + ": 4 actions", () -> undos(x), 4);
        }
        ShoutGates quiet = loaded("L15000019t000t001o00n1");
        quiet.set(4, 0);
        due("quiet stays quiet with 0", () -> quiet.gate(0, 1), 9);
        due("as long as it would", () -> quiet.ticks(9), 0);
        due("and no longer", () -> quiet.ticks(1), 1);
        due("then the new one is used", () -> quiet.gate(0, 1), 0);
        ShoutGates loud = loaded("L15000010t000t001o00n1");
        loud.set(4, 9);
        due("not quiet stays not quiet with 9", () -> loud.gate(0, 1), 0);
        due("so it shouts", () -> loud.ticks(1), 1);
        due("and is quiet then", () -> loud.gate(0, 1), 9);
    }

    // ---- promise 19

    private static void takenBack(String what, ToIntFunction<ShoutGates> action) {
        ShoutGates before = busy();
        String now = state(before);
        before.ticks(50);
        String later = state(before);
        ShoutGates x = busy();
        action.applyAsInt(x);
        due("undo " + what, x::undo, REMEMBERED - 1);
        due("undo " + what + ": the state", state(x), now);
        x.ticks(50);
        due("undo " + what + ": what follows", state(x), later);
        due("undo " + what + ": the text", text(x), "-9 of 79");
    }

    private static void eachActionIsTakenBack() {
        takenBack("take", x -> x.take(4, 19));
        takenBack("putBack", x -> x.putBack(11));
        takenBack("borrow", x -> x.borrow(5));
        takenBack("bringBack", x -> x.bringBack(11));
        takenBack("walk out", x -> x.walk(3, 0, true));
        takenBack("walk in", x -> x.walk(0, 0, false));
        takenBack("turn", x -> x.turn(1));
        takenBack("a tick", x -> x.ticks(1));
        takenBack("50 ticks", x -> x.ticks(50));
        for (int what = 0; what <= 4; what++) {
            int setting = what;
            takenBack("set " + setting, x -> x.set(setting, 1));
            takenBack("set " + setting + " to what it is", x -> x.set(setting, setting(x, setting)));
        }
        // A look ahead uses nothing that undo needs.
        takenBack("ticks and looks ahead", x -> x.ticks(9) + x.simulate(1, 99) + x.slips() + x.leastStrength(1) + x.shouted(3));
    }

    private static void upToFourteenStates() {
        for (int actions = 0; actions <= 16; actions++) {
            ShoutGates x = new ShoutGates();
            for (int i = 0; i < actions; i++) {
                x.ticks(1);
            }
            int remembered = Math.min(actions, REMEMBERED);
            for (int left = remembered - 1; left >= 0; left--) {
                due("undo of " + actions + ", " + left + " left", x::undo, left);
            }
            int forgotten = actions - remembered;
            due("undo of " + actions + ", the oldest that is left", () -> x.about(0), forgotten);
            due("undo of " + actions + ", none is left", x::undo, STATE);
            due("undo of " + actions + ", refused", () -> x.about(0), forgotten);
        }
        ShoutGates again = new ShoutGates();
        for (int i = 0; i < 40; i++) {
            again.ticks(1);
        }
        for (int left = 13; left >= 4; left--) {
            again.undo();
        }
        due("after 10 of 14", () -> again.about(0), 30);
        for (int i = 0; i < 10; i++) {
            again.ticks(2);
        }
        due("14 again", again::undo, 13);
        due("the last one", () -> again.about(0), 48);
        again.ticks(1);
        again.ticks(1);
        due("the oldest was forgotten", () -> undos(again), 14);
        due("so this is left", () -> again.about(0), 27);
    }

    private static void undoRefused() {
        refused("undo at first", ShoutGates::new, ShoutGates::undo, STATE);
        refused("undo after load", () -> loaded(HEAD + "t000o00n3"), ShoutGates::undo, STATE);
        refused("undo after restore", () -> {
            ShoutGates x = busy();
            x.restore(0);
            return x;
        }, ShoutGates::undo, STATE);
        refused("undo after all undos", () -> {
            ShoutGates x = busy();
            for (int i = 0; i < REMEMBERED; i++) {
                x.undo();
            }
            return x;
        }, ShoutGates::undo, STATE);
    }

    private static void whatUndoIsNot() {
        ShoutGates x = busy();
        x.append('n');
        x.save(1);
        x.borrow(17);
        x.undo();
        due("undo is no action", x::undo, 12);
        due("undo leaves the text", text(x), "80 of 80");
        due("undo leaves the slots", () -> x.restore(1), 9);
        due("with what they hold", () -> x.book(11, 1), 1);
        due("a refused action is none", () -> {
            ShoutGates y = new ShoutGates();
            y.take(0, 0);
            answer(() -> y.take(0, 0));
            answer(() -> y.ticks(0));
            answer(() -> y.set(0, 16));
            return y.undo();
        }, 0);
        for (int kind = 0; kind < 5; kind++) {
            int k = kind;
            due("no action: " + k, () -> {
                ShoutGates y = busy();
                switch (k) {
                    case 0: y.save(0); break;
                    case 1: y.append('x'); break;
                    case 2: y.clearText(); break;
                    case 3: y.runScript(1, 50050); break;
                    default: y.simulate(1, 99); break;
                }
                return y.undo() * 100 + y.about(0);
            }, 1309);
        }
    }
}
