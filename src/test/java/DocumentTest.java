import java.util.function.ToIntFunction;

/**
 * The document from its first line to its last, once more: sentences whose consequences no run of the
 * other tests reckons by hand.
 */
public final class DocumentTest extends Checks {
    private static final int CALLS = 512;
    /** All 12 books are told in tick 1 and wait at gate 0, where the book n is shouted in tick n + 1. */
    private static final String TWELVE = "L15000010t000t001t002t003t004t005t106t107t108t109t110t111o00o10";

    public static void main(String[] args) {
        upToTheLastCall();
        booksAreWhereTheirVisitorsAre();
        bagsWeighAlone();
        commandsOfATextAreCalls();
        lastShoutsOfAFormerState();
        rowsOfAFormerState();
        settingsAndQuietGatesOfAFormerState();
        forgottenAtEachGate();
        whatThereIsChangesNothing();
        looksAheadLeaveLongRows();
        end("DocumentTest");
    }

    // ---- What it is

    /** The last call that is promised, number 512, behind 511 that are as dear as can be. */
    private static void last(String what, ToIntFunction<ShoutGates> call, ToIntFunction<ShoutGates> lastCall, int want) {
        ShoutGates x = new ShoutGates();
        for (int i = 1; i < CALLS; i++) {
            answer(() -> call.applyAsInt(x));
        }
        due("the last call behind " + what, () -> lastCall.applyAsInt(x), want);
    }

    private static void upToTheLastCall() {
        last("ticks", x -> x.ticks(50), x -> x.about(0), 511 * 50);
        last("ticks, undone", x -> x.ticks(50), ShoutGates::undo, REMEMBERED - 1);
        last("saves", x -> x.save(1), x -> x.restore(1), 0);
        last("simulations", x -> x.simulate(7, 99), x -> x.about(0), 0);
        last("looks ahead", x -> x.leastStrength(0), x -> x.leastStrength(0), 0);
        last("signs that are refused", x -> x.append('L'), ShoutGates::clearText, 120);
        last("refused calls", x -> x.take(6, 0), x -> x.take(5, 19), 1);
    }

    // ---- Terms

    private static void booksAreWhereTheirVisitorsAre() {
        // Of a visitor who comes inside again each book is inside at once, and not before.
        ShoutGates x = loaded(HEAD + "b00t000t001o00n7i02n6");
        due("at -3 no book can be borrowed", () -> x.borrow(1), STATE);
        due("at -3 none can be brought back", () -> x.bringBack(0), STATE);
        x.ticks(1);
        due("inside it can be borrowed", () -> x.borrow(1), 2);
        due("inside it can be brought back", () -> x.bringBack(0), 1);
        due("and put back", () -> x.putBack(1), 0);
        due("borrowed it stays on the shelf", () -> x.book(1, 1), 1);
        due("another can take it", () -> x.take(3, 1), 1);
        due("the shelf is inside", () -> x.bringBack(1), 0);
    }

    private static void bagsWeighAlone() {
        // At -2 a bag of 1 needs 5 and one of 3 needs 7, however many others are at the gate.
        ShoutGates x = loaded("L06000010t000t101t102t103o00o10");
        x.ticks(1);
        due("the light bag is read alone", () -> x.gate(0, 5), 1);
        due("the heavy one has no reads", () -> x.book(1, 2), 0);
        x.set(0, 7);
        due("then both are read", () -> x.gate(0, 5), 0b1111);
        x.ticks(1);
        due("the heavy one is told now", () -> x.book(1, 3) + x.book(2, 3) + x.book(3, 3), 3);
    }

    private static void isAsCalled(String commands, ToIntFunction<ShoutGates> calls) {
        ShoutGates called = new ShoutGates();
        calls.applyAsInt(called);
        due("the commands " + commands, state(loaded(HEAD + commands)), state(called));
    }

    private static void commandsOfATextAreCalls() {
        isAsCalled("t519", x -> x.take(5, 19));
        isAsCalled("t509p09", x -> x.take(5, 9) + x.putBack(9));
        isAsCalled("b10", x -> x.borrow(10));
        isAsCalled("b10b10", x -> x.borrow(10) + x.bringBack(10));
        isAsCalled("o52", x -> x.walk(5, 2, true));
        isAsCalled("o41n7i42", x -> x.walk(4, 1, true) + x.ticks(7) + x.walk(4, 2, false));
        isAsCalled("o30n2r3", x -> x.walk(3, 0, true) + x.ticks(2) + x.turn(3));
        isAsCalled("t000o00n9", x -> x.take(0, 0) + x.walk(0, 0, true) + x.ticks(9));
        isAsCalled("t000t001o00n2b19n1r0n4p01", x -> x.take(0, 0) + x.take(0, 1) + x.walk(0, 0, true) + x.ticks(2)
            + x.borrow(19) + x.ticks(1) + x.turn(0) + x.ticks(4) + x.putBack(1));
    }

    /** The books of the last ten shouts, from the last one on, and their ticks. */
    private static void lastShouts(String what, ShoutGates x, int shouts) {
        for (int k = 0; k < 10; k++) {
            int n = k;
            boolean kept = n < shouts;
            due(what + ", the gate of " + n, () -> x.shout(n, 0), kept ? 0 : NONE);
            due(what + ", the book of " + n, () -> x.shout(n, 1), kept ? shouts - 1 - n : NONE);
            due(what + ", the tick of " + n, () -> x.shout(n, 2), kept ? shouts - n : NONE);
        }
        due(what + ", all shouts", () -> x.about(1), shouts);
    }

    /** More than ten shouts and then a state of fewer: those come back that had been pushed out. */
    private static void lastShoutsOfAFormerState() {
        ShoutGates x = loaded(TWELVE);
        for (int i = 0; i < 12; i++) {
            x.ticks(1);
        }
        for (int shouts = 11; shouts >= 9; shouts--) {
            x.undo();
            lastShouts("undo to " + shouts + " shouts", x, shouts);
        }
        ShoutGates slots = loaded(TWELVE);
        slots.ticks(3);
        slots.save(0);
        slots.ticks(7);
        slots.save(1);
        slots.ticks(2);
        slots.restore(1);
        lastShouts("restore of 10 shouts", slots, 10);
        slots.restore(0);
        lastShouts("restore of 3 shouts", slots, 3);
        slots.ticks(9);
        lastShouts("12 shouts again", slots, 12);
        slots.undo();
        lastShouts("undo behind restore", slots, 3);
    }

    private static void waiting(String what, ShoutGates x, int first, int count) {
        due(what + ": waiting", () -> x.gate(0, 2), count);
        due(what + ": all that wait", () -> x.about(2), count);
        due(what + ": the first", () -> x.gate(0, 3), count == 0 ? NONE : first);
        for (int i = 0; i < count; i++) {
            int n = i;
            due(what + ": when " + (first + n) + " is shouted", () -> x.shouted(first + n), n + 1);
        }
    }

    private static void rowsOfAFormerState() {
        ShoutGates x = loaded(TWELVE);
        x.ticks(1);
        x.save(1);
        for (int i = 0; i < 3; i++) {
            x.ticks(1);
        }
        waiting("after 4 ticks", x, 4, 8);
        x.undo();
        x.undo();
        waiting("undo of 2", x, 2, 10);
        x.ticks(50);
        waiting("after all", x, 12, 0);
        x.undo();
        waiting("undo of 50 ticks", x, 2, 10);
        x.turn(0);
        x.turn(1);
        x.ticks(50);
        waiting("all are inside", x, 12, 0);
        x.restore(1);
        waiting("restore", x, 1, 11);
    }

    private static void settingsAndQuietGatesOfAFormerState() {
        ShoutGates x = loaded("L15000019t000t001o00n1");
        x.save(0);
        x.set(4, 2);
        // Quiet up to tick 10; the next shout comes in tick 11.
        x.ticks(11);
        due("quiet for the new quiet time", () -> x.gate(0, 1), 1);
        due("undo of the ticks", x::undo, 1);
        due("quiet as it was", () -> x.gate(0, 1), 9);
        due("the new quiet time stays", () -> x.about(10), 2);
        due("undo of the quiet time", x::undo, 0);
        due("the former quiet time", () -> x.about(10), 9);
        x.set(0, 1);
        x.set(3, 3);
        x.restore(0);
        due("the strength of the slot", () -> x.gate(0, 0), 15);
        due("the sureness of the slot", () -> x.about(9), 1);
        due("quiet as in the slot", () -> x.gate(0, 1), 9);
    }

    /** A waiting shout is forgotten wherever it waits, and by whichever gate its visitor comes inside. */
    private static void forgottenAtEachGate() {
        // Visitor 0 makes gate 0, or 2, quiet; visitor 1 at gate 1 is told by it: at -2 a bag of 1 needs 10 of it.
        for (int beside = 0; beside <= 2; beside += 2) {
            int g = beside;
            String strengths = g == 0 ? "150000" : "000015";
            ShoutGates x = loaded("L" + strengths + "19t000t101o0" + g + "n1o11n1");
            due("it waits beside, at gate " + g, () -> x.gate(g, 3), 1);
            due("it does not wait at its own gate", () -> x.gate(1, 2), 0);
            x.turn(1);
            x.ticks(1);
            due("at -3 it waits at gate " + g, () -> x.gate(g, 3), 1);
            x.ticks(1);
            due("inside it does not wait at gate " + g, () -> x.gate(g, 2) + x.about(2), 0);
            due("nor is it shouted", () -> x.shouted(1), NONE);
        }
        for (int back = 0; back < 3; back++) {
            int g = back;
            ShoutGates x = loaded("L15000019t000t001t002o00n1");
            for (int i = 0; i < 6; i++) {
                x.ticks(1);
            }
            due("two wait while he is outside", () -> x.gate(0, 2), 2);
            x.walk(0, g, false);
            due("when he walks in by " + g + ", they wait still", () -> x.gate(0, 2), 2);
            x.set(4, 0);
            due("one is shouted before he is inside", () -> x.ticks(4), 1);
            due("in by " + g + ", the next in the tick after", () -> x.shouted(2), 1);
            x.undo();
            x.set(4, 9);
            x.ticks(7);
            due("in by " + g + ", none waits inside", () -> x.about(2), 0);
            due("in by " + g + ", none has been told", () -> x.book(0, 3) + x.book(1, 3) + x.book(2, 3), 0);
            due("in by " + g + ", none has reads", () -> x.book(0, 2) + x.book(1, 2) + x.book(2, 2), 0);
        }
    }

    // ---- what there is, what would be

    private static void whatThereIsChangesNothing() {
        for (int what = 0; what <= 5; what++) {
            int w = what;
            for (int n : new int[] {0, 1, 2, 9}) {
                changesNothing("book " + n + ", " + w, Checks::busy, x -> x.book(n, w));
                changesNothing("visitor " + n + ", " + w, Checks::busy, x -> x.visitor(n, w));
                changesNothing("gate " + n + ", " + w, Checks::busy, x -> x.gate(n, w));
                changesNothing("shout " + n + ", " + w, Checks::busy, x -> x.shout(n, w));
            }
        }
    }

    private static void leaves(String what, ToIntFunction<ShoutGates> look) {
        changesNothing(what + " with a long row", () -> {
            ShoutGates x = loaded(TWELVE);
            x.ticks(1);
            x.save(0);
            x.ticks(10);
            x.save(1);
            x.undo();
            x.ticks(2);
            return x;
        }, look);
    }

    private static void looksAheadLeaveLongRows() {
        leaves("shouted", x -> x.shouted(11));
        leaves("slips", ShoutGates::slips);
        leaves("leastStrength", x -> x.leastStrength(2));
        leaves("bestGate", x -> x.bestGate(5));
        leaves("runScript", x -> x.runScript(3, 500504000041000L));
        leaves("simulate", x -> x.simulate(-1, 99));
    }
}
