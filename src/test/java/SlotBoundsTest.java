/** The boundary cases of the promises 26 and 27: the save slots. */
public final class SlotBoundsTest extends Checks {
    public static void main(String[] args) {
        saveRefused();
        saveOfTheTicks();
        saveChangesItsSlotAlone();
        restoreRefused();
        restoreOfTheSlots();
        restoreForgets();
        loadEmptiesTheSlots();
        end("SlotBoundsTest");
    }

    // ---- promise 26

    private static void saveRefused() {
        for (int slot : outside(0, 1)) {
            refused("save " + slot, Checks::busy, x -> x.save(slot), BOUNDS);
            refused("save " + slot + " at first", ShoutGates::new, x -> x.save(slot), BOUNDS);
        }
    }

    private static void saveOfTheTicks() {
        for (int slot = 0; slot < 2; slot++) {
            int s = slot;
            due("save " + s + " of a new library", () -> new ShoutGates().save(s), 0);
            due("save " + s + " of a busy one", () -> busy().save(s), 9);
            ShoutGates x = new ShoutGates();
            x.ticks(50);
            x.ticks(50);
            due("save " + s + " after 100 ticks", () -> x.save(s), 100);
            x.undo();
            due("save " + s + " after undo", () -> x.save(s), 50);
        }
    }

    private static void saveChangesItsSlotAlone() {
        for (int slot = 0; slot < 2; slot++) {
            int s = slot;
            ShoutGates x = busy();
            x.ticks(1);
            String now = state(x);
            due("save " + s, () -> x.save(s), 10);
            due("save " + s + " leaves the state", state(x), now);
            due("save " + s + " leaves the text", text(x), "-9 of 79");
            due("save " + s + " is no action", x::undo, REMEMBERED - 1);
            due("save " + s + " leaves the other slot", () -> x.restore(1 - s), s == 0 ? 9 : 8);
            due("save " + s + " over what was in it", () -> x.restore(s), 10);
            ShoutGates undone = busy();
            undone.save(s);
            due("save " + s + ": 14 states are remembered still", () -> undos(undone), REMEMBERED);
            due("undo leaves slot " + s, () -> undone.restore(s), 9);
        }
    }

    // ---- promise 27

    private static void restoreRefused() {
        for (int slot : outside(0, 1)) {
            refused("restore " + slot, Checks::busy, x -> x.restore(slot), BOUNDS);
            refused("restore " + slot + ", nothing is saved", ShoutGates::new, x -> x.restore(slot), BOUNDS);
        }
        for (int slot = 0; slot < 2; slot++) {
            int s = slot;
            refused("restore " + s + " at first", ShoutGates::new, x -> x.restore(s), STATE);
            refused("restore " + s + " of what is remembered alone", () -> withBooks(6), x -> x.restore(s), STATE);
            refused("restore " + s + ", the other one is saved", () -> {
                ShoutGates x = withBooks(3);
                x.save(1 - s);
                x.ticks(2);
                return x;
            }, x -> x.restore(s), STATE);
            refused("restore " + s + " after load", () -> {
                ShoutGates x = busy();
                x.load();
                x.take(4, 12);
                return x;
            }, x -> x.restore(s), STATE);
        }
    }

    private static void restoreOfTheSlots() {
        for (int slot = 0; slot < 2; slot++) {
            int s = slot;
            ShoutGates x = withBooks(6);
            x.walk(0, 0, true);
            x.save(s);
            String saved = state(x);
            x.ticks(50);
            x.borrow(19);
            x.set(0, 15);
            x.append('L');
            due("restore " + s, () -> x.restore(s), 0);
            due("restore " + s + ": the state", state(x), saved);
            due("restore " + s + " leaves the text", text(x), "1 of 1");
            x.ticks(9);
            due("the slot " + s + " keeps it", () -> x.restore(s), 0);
            due("and keeps the visitor at the gate", () -> x.visitor(0, 2), -3);
            due("restore " + s + " of what is as it was", () -> x.restore(s), 0);
        }
        ShoutGates both = new ShoutGates();
        both.save(0);
        both.ticks(1);
        both.save(1);
        both.ticks(1);
        due("slot 0 of two", () -> both.restore(0), 0);
        due("slot 1 of two", () -> both.restore(1), 1);
        both.save(0);
        due("saved from the other one", () -> both.restore(0), 1);
        due("ticks go on from there", () -> both.ticks(3) + both.about(0), 4);
        ShoutGates rows = loaded("L15000019t000t001t002o00n1");
        rows.save(1);
        rows.set(4, 0);
        rows.ticks(50);
        rows.restore(1);
        due("the row is there again", () -> rows.shouted(2), 20);
        due("the shouts are as they were", () -> rows.shout(0, 2) + rows.about(1), 2);
    }

    private static void restoreForgets() {
        for (int slot = 0; slot < 2; slot++) {
            int s = slot;
            ShoutGates x = busy();
            due("restore " + s + " with 14 remembered", () -> x.restore(s), 8 + s);
            due("restore " + s + " forgets them", x::undo, STATE);
            x.ticks(1);
            due("one is remembered after restore " + s, x::undo, 0);
            due("it is the one of the slot " + s, () -> x.about(0), 8 + s);
            due("none more after restore " + s, x::undo, STATE);
            for (int i = 0; i < 16; i++) {
                x.ticks(1);
            }
            due("14 again after restore " + s, () -> undos(x), REMEMBERED);
            due("16 less 14 after restore " + s, () -> x.about(0), 10 + s);
        }
    }

    private static void loadEmptiesTheSlots() {
        ShoutGates x = busy();
        x.load();
        due("slot 0 after load", () -> x.restore(0), STATE);
        due("slot 1 after load", () -> x.restore(1), STATE);
        x.save(1);
        due("slot 0 is empty still", () -> x.restore(0), STATE);
        due("slot 1 is not", () -> x.restore(1), 8);
        x.append('x');
        due("a refused load", x::load, STATE);
        due("a refused load leaves slot 1", () -> x.restore(1), 8);
    }
}
