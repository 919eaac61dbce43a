/** The boundary cases of the promises 1 to 5: a new object and the text. */
public final class TextBoundsTest extends Checks {
    private static final int LIMIT = 120;

    public static void main(String[] args) {
        newObject();
        append();
        clearText();
        headerSigns();
        commandSigns();
        errorsAtTheEnds();
        lookingAtErrors();
        load();
        loadAtItsBounds();
        loadLeavesOut();
        loadRefused();
        end("TextBoundsTest");
    }

    /** A library of so many characters, not 10: commands that are left out, and one of three signs if need be. */
    private static String library(int length) {
        String last = length % 2 == 0 ? "o00" : "";
        return HEAD + "r0".repeat((length - HEAD.length() - last.length()) / 2) + last;
    }

    // ---- promise 1

    private static void newObject() {
        due("NONE is -9", () -> ShoutGates.NONE, -9);
        String fresh = all(ShoutGates::new);
        due("objects have nothing in common", all(() -> {
            busy();
            ShoutGates x = new ShoutGates();
            busy();
            return x;
        }), fresh);
        due("a new library is one whose text has the first gates", state(loaded("L07070721")), state(new ShoutGates()));
        due("a new object's text is empty", () -> new ShoutGates().clearText(), 0);
        due("a new object's text is no library", () -> new ShoutGates().errorPosition(), 0);
        due("a new object's text can't be loaded", () -> new ShoutGates().load(), STATE);
        due("a new object remembers nothing", () -> new ShoutGates().undo(), STATE);
    }

    // ---- promise 2

    private static void append() {
        for (int c : new int[] {0, 1, 'L', 127, 128, 254, 255}) {
            due("append " + c, () -> new ShoutGates().append(c), 1);
        }
        for (int c : outside(0, 255)) {
            refused("append " + c, Checks::busy, x -> x.append(c), ARGUMENT);
            refused("append " + c + " to nothing", ShoutGates::new, x -> x.append(c), ARGUMENT);
            refused("append " + c + " to a full text", () -> written(library(LIMIT)), x -> x.append(c), ARGUMENT);
        }
        // 256 more than a sign is not that sign.
        refused("append L and 256", ShoutGates::new, x -> x.append('L' + 256), ARGUMENT);
        ShoutGates x = new ShoutGates();
        for (int i = 1; i <= LIMIT; i++) {
            due("append number " + i, () -> x.append('L'), i);
        }
        due("append number 121", () -> x.append('L'), STATE);
        due("append number 121 again", () -> x.append('L'), STATE);
        due("the full text", x::clearText, LIMIT);
        for (int i = 1; i <= LIMIT; i++) {
            due("append number " + i + " after clearText", () -> x.append('L'), i);
        }
        for (int c : new int[] {0, 'r', 255}) {
            refused("append " + c + " to a full text", () -> written(library(LIMIT)), y -> y.append(c), STATE);
            refused("append " + c + " to a full loaded text", () -> loaded(library(LIMIT)), y -> y.append(c), STATE);
        }
        due("append to 119", () -> written(library(LIMIT - 1)).append('r'), LIMIT);
        ShoutGates busy = busy();
        String before = state(busy);
        busy.append('x');
        due("append leaves the state", state(busy), before);
        due("append is no action", busy::undo, REMEMBERED - 1);
        due("append leaves the slots", () -> busy.restore(0), 8);
    }

    // ---- promise 3

    private static void clearText() {
        due("clearText of nothing", () -> new ShoutGates().clearText(), 0);
        due("clearText of one", () -> written("x").clearText(), 1);
        due("clearText of a full text", () -> written(library(LIMIT)).clearText(), LIMIT);
        ShoutGates x = written(library(LIMIT));
        x.clearText();
        due("clearText again", x::clearText, 0);
        due("an empty text ends at 0", x::errorPosition, 0);
        due("an empty text is no library", x::load, STATE);
        due("the first after it", () -> x.append('L'), 1);
        due("nothing of the former text", x::errorPosition, 1);
        ShoutGates busy = busy();
        String before = state(busy);
        due("clearText of a library", busy::clearText, 79);
        due("clearText leaves the state", state(busy), before);
        due("clearText is no action", busy::undo, REMEMBERED - 1);
        due("clearText leaves the slots", () -> busy.restore(1), 9);
    }

    // ---- promise 4

    /** Each of the 256 signs behind a start that is right so far. */
    private static void signs(String start, String allowed, boolean ends) {
        for (char c = 0; c < 256; c++) {
            String text = start + c;
            boolean fine = allowed.indexOf(c) >= 0;
            int want = !fine ? start.length() : ends ? NONE : text.length();
            due("errorPosition of " + start + " and " + (int) c, () -> written(text).errorPosition(), want);
        }
    }

    private static void headerSigns() {
        signs("", "L", false);
        for (String before : new String[] {"L", "L00", "L0015", "L15", "L1500", "L1515"}) {
            signs(before, before.length() == 7 ? "123" : "01", false);
            signs(before + "0", "0123456789", false);
            signs(before + "1", "012345", false);
        }
        for (String before : new String[] {"L000000", "L151515", "L090909"}) {
            signs(before, "123", false);
            signs(before + "1", "0123456789", true);
            signs(before + "3", "0123456789", true);
        }
    }

    private static void commandSigns() {
        for (String before : new String[] {HEAD, HEAD + "n9", HEAD + "t519"}) {
            signs(before, "tpboirn", false);
            signs(before + "t", "012345", false);
            signs(before + "t0", "01", false);
            signs(before + "t5", "01", false);
            signs(before + "t50", "0123456789", true);
            signs(before + "t01", "0123456789", true);
            for (String letter : new String[] {"p", "b"}) {
                signs(before + letter, "01", false);
                signs(before + letter + "0", "0123456789", true);
                signs(before + letter + "1", "0123456789", true);
            }
            for (String letter : new String[] {"o", "i"}) {
                signs(before + letter, "012345", false);
                signs(before + letter + "0", "012", true);
                signs(before + letter + "5", "012", true);
            }
            signs(before + "r", "012345", true);
            signs(before + "n", "123456789", true);
        }
    }

    private static void errorsAtTheEnds() {
        for (int length : new int[] {9, 11, 12, 13, 118, 119, 120}) {
            due("a library of " + length, () -> written(library(length)).clearText(), length);
            due("a library of " + length + " is one", () -> written(library(length)).errorPosition(), NONE);
        }
        String almost = library(119);
        due("a full text that ends too soon", () -> written(almost + "r").errorPosition(), LIMIT);
        due("a full text wrong at its end", () -> written(almost + "0").errorPosition(), 119);
        due("a full text wrong before it", () -> written(almost.substring(0, 118) + "rr").errorPosition(), 118);
        due("a full text wrong at its start", () -> written("l" + almost).errorPosition(), 0);
        due("the first of two errors", () -> written("L07070701n0").errorPosition(), 7);
        due("an error before too soon an end", () -> written(HEAD + "t6").errorPosition(), 10);
        due("two libraries", () -> written(HEAD + HEAD).errorPosition(), 9);
        due("a blank before it", () -> written(" " + HEAD).errorPosition(), 0);
        due("a blank behind it", () -> written(HEAD + " ").errorPosition(), 9);
        due("a blank in it", () -> written(HEAD + "o 00").errorPosition(), 10);
        for (int length = 0; length < 9; length++) {
            String start = HEAD.substring(0, length);
            due("too soon: " + start, () -> written(start).errorPosition(), start.length());
        }
    }

    private static void lookingAtErrors() {
        looked("errorPosition of a library", Checks::busy, ShoutGates::errorPosition, NONE);
        looked("errorPosition of none", ShoutGates::new, ShoutGates::errorPosition, 0);
        looked("errorPosition of a wrong one", () -> {
            ShoutGates x = busy();
            x.append('x');
            return x;
        }, ShoutGates::errorPosition, 79);
        ShoutGates x = written(HEAD + "p1");
        due("too soon", x::errorPosition, 11);
        due("too soon, again", x::errorPosition, 11);
        x.append('9');
        due("then a library", x::errorPosition, NONE);
        x.append('n');
        due("then too soon again", x::errorPosition, 13);
    }

    // ---- promise 5

    private static void load() {
        ShoutGates x = busy();
        x.clearText();
        write(x, HEAD);
        due("load of no commands", x::load, 0);
        due("load forgets what is remembered", x::undo, STATE);
        due("load empties slot 0", () -> x.restore(0), STATE);
        due("load empties slot 1", () -> x.restore(1), STATE);
        due("load makes all new", state(x), state(new ShoutGates()));
        due("load keeps the text", text(x), "-9 of 9");
        ShoutGates slipped = loaded("L00000010t000o00n7");
        due("one slipped out before load", () -> slipped.about(4), 1);
        slipped.clearText();
        write(slipped, HEAD);
        slipped.load();
        due("load forgets what slipped out", state(slipped), state(new ShoutGates()));
        ShoutGates again = busy();
        again.load();
        String loaded = state(again);
        again.ticks(9);
        again.load();
        due("load does not go on from before", state(again), loaded);
        due("load's commands are no actions", again::undo, STATE);
        due("load keeps a text of commands", text(again), "-9 of 79");
        ShoutGates saved = written(HEAD);
        saved.load();
        saved.save(1);
        due("a slot is filled after load", () -> saved.restore(1), 0);
        due("the other one is not", () -> saved.restore(0), STATE);
        due("load of the second", saved::load, 0);
        due("and empties it again", () -> saved.restore(1), STATE);
    }

    private static void gatesAfter(String text, int first, int second, int third, int sureness, int quiet) {
        ShoutGates x = loaded(text);
        due(text + " strength 0", () -> x.gate(0, 0), first);
        due(text + " strength 1", () -> x.gate(1, 0), second);
        due(text + " strength 2", () -> x.gate(2, 0), third);
        due(text + " sureness", () -> x.about(9), sureness);
        due(text + " quiet time", () -> x.about(10), quiet);
    }

    private static void loadAtItsBounds() {
        gatesAfter("L00000010", 0, 0, 0, 1, 0);
        gatesAfter("L15151539", 15, 15, 15, 3, 9);
        gatesAfter("L09101128", 9, 10, 11, 2, 8);
        ShoutGates x = loaded(HEAD + "t000t519b00b19o00o52n1i00r0r5n9");
        // Left out is i00: visitor 0 is at a gate.
        due("bounds: left out", x::load, 1);
        due("bounds: ticks", () -> x.about(0), 10);
        due("bounds: borrowed", () -> x.about(5), 2);
        due("bounds: book 0", () -> x.book(0, 0), 0);
        due("bounds: book 19", () -> x.book(19, 0), 5);
        due("bounds: all inside", () -> x.about(7) + x.about(8), 0);
        due("the most commands, all left out", () -> written(library(119)).load(), 55);
        due("one of three signs at the end of a full text", () -> loaded(library(120)).visitor(0, 1), 0);
        due("a full text: left out", () -> written(library(120)).load(), 54);
        ShoutGates ticks = written(HEAD + "n9".repeat(55));
        due("the most ticks", ticks::load, 0);
        due("the most ticks went by", () -> ticks.about(0), 495);
    }

    private static void leftOut(String kept, String command, int want) {
        due(kept + " and then " + command, () -> written(HEAD + kept + command).load(), want);
        if (want == 1) {
            due(command + " leaves all as it was", state(loaded(HEAD + kept + command)), state(loaded(HEAD + kept)));
        }
    }

    private static void loadLeavesOut() {
        String sixBooks = "t000t001t002t003t004t005";
        leftOut(sixBooks, "t119", 0);
        leftOut(sixBooks, "t006", 1);
        leftOut(sixBooks, "t005", 1);
        leftOut(sixBooks, "t100", 1);
        leftOut("o00", "t006", 1);
        leftOut("o00n7", "t006", 1);
        leftOut("", "p00", 1);
        leftOut("t000", "p00", 0);
        leftOut("t000p00", "p00", 1);
        leftOut("t000o00", "p00", 1);
        leftOut("t000o00n7", "p00", 1);
        leftOut("", "b19", 0);
        leftOut("b19", "b19", 0);
        leftOut("t019o00", "b19", 1);
        leftOut("b19t019o00", "b19", 1);
        leftOut("t019o00n7", "b19", 1);
        leftOut("b19t019o00n7", "b19", 1);
        leftOut("", "i50", 1);
        leftOut("", "o50", 0);
        leftOut("o50", "o50", 1);
        leftOut("o50", "i50", 1);
        leftOut("o50n7", "o50", 1);
        leftOut("o50n7", "i52", 0);
        leftOut("", "r5", 1);
        leftOut("o52", "r5", 0);
        leftOut("o52n6", "r5", 0);
        leftOut("o52n7", "r5", 1);
        ShoutGates brought = loaded(HEAD + "b19b19");
        due("b twice brings back", () -> brought.about(5), 0);
    }

    private static void loadRefused() {
        String[] wrong = {"", "L", "L0707072", "L16070721", "L07070701", "L07070741", HEAD + "t00", HEAD + "t020", HEAD + "n0",
            HEAD + "t000o00n5x", HEAD + " ", "l07070721", library(119) + "r"};
        for (String text : wrong) {
            refused("load of " + text, () -> {
                ShoutGates x = busy();
                x.clearText();
                write(x, text);
                return x;
            }, ShoutGates::load, STATE);
        }
        refused("load on a new object", ShoutGates::new, ShoutGates::load, STATE);
    }
}
