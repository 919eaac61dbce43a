import java.io.IOException;
import java.nio.charset.StandardCharsets;
import java.nio.file.Files;
import java.nio.file.Path;
import java.util.ArrayDeque;
import java.util.Deque;
import java.util.function.IntSupplier;
import java.util.regex.Matcher;
import java.util.regex.Pattern;

/** The calls of README.md, in its order, answer what it says behind them. */
public final class ReadmeTest extends Checks {
    private static final Pattern LINE = Pattern.compile("^(\\w+\\.\\w+\\(.*\\)); +// (-?\\d+)(?:: .*)?$");
    private static final Deque<String[]> lines = new ArrayDeque<>();

    public static void main(String[] args) throws IOException {
        for (String line : Files.readString(Path.of("README.md"), StandardCharsets.UTF_8).split("\n")) {
            Matcher matcher = LINE.matcher(line);
            if (matcher.matches()) {
                lines.add(new String[] {matcher.group(1), matcher.group(2)});
            }
        }
        booksVisitorsGates();
        whatWouldBe();
        undoAndSlots();
        text();
        due("lines of README.md that no test calls", String.valueOf(lines.size()), "0");
        end("ReadmeTest");
    }

    private static void told(String call, IntSupplier answer) {
        String[] next = lines.isEmpty() ? new String[] {"nothing", "nothing"} : lines.remove();
        due("the next call of README.md", next[0], call);
        due(call, answer, next[1]);
    }

    private static void booksVisitorsGates() {
        ShoutGates library = new ShoutGates();
        told("library.take(0, 12)", () -> library.take(0, 12));
        told("library.take(0, 13)", () -> library.take(0, 13));
        told("library.borrow(13)", () -> library.borrow(13));
        told("library.walk(0, 1, true)", () -> library.walk(0, 1, true));
        told("library.ticks(7)", () -> library.ticks(7));
        told("library.shout(0, 1)", () -> library.shout(0, 1));
        told("library.shout(0, 2)", () -> library.shout(0, 2));
        told("library.visitor(0, 0)", () -> library.visitor(0, 0));
        told("library.about(3)", () -> library.about(3));
        told("library.about(4)", () -> library.about(4));
    }

    private static void whatWouldBe() {
        ShoutGates ahead = new ShoutGates();
        told("ahead.take(0, 12)", () -> ahead.take(0, 12));
        told("ahead.bestGate(0)", () -> ahead.bestGate(0));
        told("ahead.walk(0, 1, true)", () -> ahead.walk(0, 1, true));
        told("ahead.shouted(12)", () -> ahead.shouted(12));
        told("ahead.slips()", ahead::slips);
        told("ahead.leastStrength(1)", () -> ahead.leastStrength(1));
        told("ahead.runScript(2, 5000260121L)", () -> ahead.runScript(2, 5000260121L));
        told("ahead.simulate(1, 20)", () -> ahead.simulate(1, 20));
        told("ahead.about(0)", () -> ahead.about(0));
    }

    private static void undoAndSlots() {
        ShoutGates again = new ShoutGates();
        told("again.save(0)", () -> again.save(0));
        told("again.take(5, 19)", () -> again.take(5, 19));
        told("again.ticks(50)", () -> again.ticks(50));
        told("again.undo()", again::undo);
        told("again.about(0)", () -> again.about(0));
        told("again.restore(0)", () -> again.restore(0));
        told("again.book(19, 0)", () -> again.book(19, 0));
    }

    private static void text() {
        ShoutGates written = written("L07070721t012o01n7p12");
        told("written.errorPosition()", written::errorPosition);
        told("written.load()", written::load);
        told("written.about(3)", () -> written.about(3));
        told("written.clearText()", written::clearText);
        told("written.errorPosition()", written::errorPosition);
    }
}
