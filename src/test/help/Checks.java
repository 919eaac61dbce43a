import java.util.function.IntSupplier;
import java.util.function.Supplier;
import java.util.function.ToIntFunction;

/**
 * What the tests have in common: a call's answer is compared with the one that is due.
 *
 * A test uses no object for more than the 512 calls that are promised, so what must leave everything
 * as it was is looked at on objects made anew, one for each thing that could have become different.
 */
abstract class Checks {
    static final int NONE = -9;
    static final String BOUNDS = "throws.IndexOutOfBoundsException";
    static final String ARGUMENT = "throws.IllegalArgumentException";
    static final String STATE = "throws.IllegalStateException";
    static final String HEAD = "L07070721";
    static final int REMEMBERED = 14;

    private static int wrong = 0;
    private static int checks = 0;

    static void end(String name) {
        System.out.println(name + ": " + checks + " checks, " + wrong + " wrong");
        System.exit(wrong == 0 && checks > 0 ? 0 : 1);
    }

    // ---- one call

    static void due(String what, String got, String want) {
        checks++;
        if (!got.equals(want)) {
            wrong++;
            System.out.println(what + " answered " + got + ", due is " + want);
        }
    }

    static void due(String what, IntSupplier call, int want) {
        due(what, answer(call), String.valueOf(want));
    }

    static void due(String what, IntSupplier call, String want) {
        due(what, answer(call), want);
    }

    static String answer(IntSupplier call) {
        try {
            return String.valueOf(call.getAsInt());
        } catch (RuntimeException e) {
            return "throws." + e.getClass().getSimpleName();
        }
    }

    // ---- calls that change nothing

    /** A call that is to throw, and to leave state, text, slots, and what undo takes back, as they were. */
    static void refused(String what, Supplier<ShoutGates> start, ToIntFunction<ShoutGates> call, String want) {
        due(what, () -> call.applyAsInt(start.get()), want);
        changesNothing(what, start, call);
    }

    /** A call that is to answer, and to leave everything as it was. */
    static void looked(String what, Supplier<ShoutGates> start, ToIntFunction<ShoutGates> call, int want) {
        due(what, () -> call.applyAsInt(start.get()), want);
        changesNothing(what, start, call);
    }

    static void changesNothing(String what, Supplier<ShoutGates> start, ToIntFunction<ShoutGates> call) {
        due(what + " changes nothing", all(() -> after(start, call)), all(start));
    }

    static ShoutGates after(Supplier<ShoutGates> start, ToIntFunction<ShoutGates> call) {
        ShoutGates x = start.get();
        answer(() -> call.applyAsInt(x));
        return x;
    }

    /** All that can be told of an object: its state, what follows from it, its text, each undo, and the slots. */
    static String all(Supplier<ShoutGates> start) {
        ShoutGates first = start.get();
        StringBuilder told = new StringBuilder(state(first)).append("text ").append(text(first));
        ShoutGates later = start.get();
        told.append("\nlater ").append(later.ticks(50)).append(' ').append(state(later));
        int states = undos(start.get());
        for (int i = 1; i <= states; i++) {
            ShoutGates x = start.get();
            told.append("\nundo ");
            for (int k = 0; k < i; k++) {
                told.append(answer(x::undo)).append(' ');
            }
            told.append(state(x));
        }
        for (int i = 0; i < 2; i++) {
            int slot = i;
            ShoutGates x = start.get();
            told.append("\nslot ").append(answer(() -> x.restore(slot))).append(' ').append(state(x));
        }
        return told.toString();
    }

    static String text(ShoutGates x) {
        return x.errorPosition() + " of " + x.clearText();
    }

    /** How many states are remembered, by taking them all back. */
    static int undos(ShoutGates x) {
        int count = 0;
        while (count <= REMEMBERED && answer(x::undo).charAt(0) != 't') {
            count++;
        }
        return count;
    }

    /** All that the object tells of its state, in 189 calls. */
    static String state(ShoutGates x) {
        StringBuilder all = new StringBuilder();
        for (int what = 0; what <= 10; what++) {
            all.append(x.about(what)).append(' ');
        }
        for (int b = 0; b < 20; b++) {
            for (int what = 0; what <= 4; what++) {
                all.append(x.book(b, what)).append(' ');
            }
        }
        for (int v = 0; v < 6; v++) {
            for (int what = 0; what <= 4; what++) {
                all.append(x.visitor(v, what)).append(' ');
            }
        }
        for (int g = 0; g < 3; g++) {
            for (int what = 0; what <= 5; what++) {
                all.append(x.gate(g, what)).append(' ');
            }
        }
        for (int k = 0; k < 10; k++) {
            for (int what = 0; what <= 2; what++) {
                all.append(x.shout(k, what)).append(' ');
            }
        }
        return all.toString();
    }

    // ---- objects to begin with

    static void write(ShoutGates x, String text) {
        for (int i = 0; i < text.length(); i++) {
            x.append(text.charAt(i));
        }
    }

    static ShoutGates written(String text) {
        ShoutGates x = new ShoutGates();
        write(x, text);
        return x;
    }

    static ShoutGates loaded(String text) {
        ShoutGates x = written(text);
        x.load();
        return x;
    }

    /** Visitor 0 has so many books, numbered from 0. */
    static ShoutGates withBooks(int books) {
        ShoutGates x = new ShoutGates();
        for (int b = 0; b < books; b++) {
            x.take(0, b);
        }
        return x;
    }

    /**
     * Of everything something, and 14 states remembered, so that one more, or one less, could be seen.
     * Visitor 0 is outside with 0 and 1 (borrowed), 1 at gate 2 at -1 on the way out with 2 and 3, 2 at
     * gate 1 at 1 on the way in with 4, 3 inside with 5 to 10, 4 inside with none, 5 inside with 11
     * (borrowed) and 13. Borrowed on the shelf are 18 and 19. 4 waits at gate 0, which is quiet for 1
     * tick, and 3 at gate 2, which is quiet for 8. In 9 ticks there were 2 shouts, 0 and 2, and 2 books
     * were caught. The slots hold the states of the ticks 8 and 9. It takes 99 calls.
     */
    static ShoutGates busy() {
        ShoutGates x = loaded("L15061519t000b01t001t102t103t204t305t306t307t308t309t310t511b19o00o20n7i21o12n1");
        x.set(1, 7);
        x.set(3, 2);
        x.set(4, 3);
        x.borrow(18);
        x.take(4, 12);
        x.putBack(12);
        x.save(0);
        x.turn(1);
        x.turn(1);
        x.borrow(12);
        x.bringBack(12);
        x.take(5, 13);
        x.borrow(13);
        x.ticks(1);
        x.save(1);
        x.bringBack(13);
        x.borrow(11);
        x.turn(2);
        x.turn(2);
        return x;
    }

    /** Numbers outside of a range: just below and just above it, and as far away as can be. */
    static int[] outside(int least, int most) {
        return new int[] {least - 1, most + 1, Integer.MIN_VALUE, Integer.MAX_VALUE};
    }
}
