import java.math.BigInteger;

/**
 * The boundary cases of the promises 24 and 25. What a script or a simulation is to answer is found by
 * doing its commands one by one with the calls of the face.
 */
public final class ScriptBoundsTest extends Checks {
    public static void main(String[] args) {
        scriptRefused();
        scriptLengths();
        everyGroup();
        ticksOfAScript();
        countsOfAScript();
        firstThatFails();
        scriptsGoOnFromThere();
        scriptsChangeNothing();
        simulateRefused();
        simulateTurns();
        simulateEachKind();
        simulateCountsItsOwn();
        simulateChangesNothing();
        end("ScriptBoundsTest");
    }

    // ---- promise 24

    private static void scriptRefused() {
        for (int n : outside(1, 3)) {
            for (long script : new long[] {0, 50001, -1, Long.MAX_VALUE}) {
                refused("runScript " + n + ", " + script, Checks::busy, x -> x.runScript(n, script), ARGUMENT);
            }
        }
        long most = 1;
        for (int n = 1; n <= 3; n++) {
            int count = n;
            most *= 100000;
            long limit = most;
            for (long script : new long[] {-1, Long.MIN_VALUE, -50001, limit, limit + 50001, 10 * limit, Long.MAX_VALUE}) {
                refused("runScript " + count + ", " + script, Checks::busy, x -> x.runScript(count, script), ARGUMENT);
            }
        }
    }

    private static void scriptLengths() {
        ShoutGates x = busy();
        due("the least script of 1", () -> x.runScript(1, 0), 0);
        due("the least script of 3", () -> x.runScript(3, 0), 0);
        due("the largest script of 1", () -> x.runScript(1, 99999L), 0);
        due("the largest script of 2", () -> x.runScript(2, 9999999999L), 0);
        due("the largest script of 3", () -> x.runScript(3, 999999999999999L), 0);
        due("5 digits of 5", () -> x.runScript(1, 90000L), NONE);
        due("10 digits of 10", () -> x.runScript(2, 9000090000L), NONE);
        due("15 digits of 15", () -> x.runScript(3, 900009000090000L), NONE);
        due("10 digits of 15: the first group is 00000", () -> x.runScript(3, 9000090000L), 0);
        due("5 digits of 10: the first group is 00000", () -> x.runScript(2, 90000L), 0);
        due("14 digits of 15: the first group is 09000", () -> x.runScript(3, 90000900009000L), 0);
    }

    /** What a command of a script is, done with the calls of the face. */
    private static boolean succeeds(ShoutGates x, String d) {
        int d2 = d.charAt(1) - '0';
        int d3 = d.charAt(2) - '0';
        int d5 = d.charAt(4) - '0';
        int bb = Integer.parseInt(d.substring(2, 4));
        int nn = Integer.parseInt(d.substring(3));
        String got = "throws";
        if (d.matches("1...0")) {
            got = answer(() -> x.take(d2, bb));
        } else if (d.matches("20..0")) {
            got = answer(() -> x.putBack(bb));
        } else if (d.matches("20..1")) {
            got = answer(() -> x.borrow(bb));
        } else if (d.matches("20..2")) {
            got = answer(() -> x.bringBack(bb));
        } else if (d.matches("3..[01]0")) {
            got = answer(() -> x.walk(d2, d3, d.charAt(3) == '1'));
        } else if (d.matches("4.000")) {
            got = answer(() -> x.turn(d2));
        } else if (d.matches("500..")) {
            got = answer(() -> x.ticks(nn));
        } else if (d.matches("60..[01]")) {
            return answer(() -> x.book(bb, 3)).equals(String.valueOf(d5));
        } else if (d.matches("7.00[012]")) {
            return answer(() -> x.visitor(d2, 0)).equals(String.valueOf(d5));
        } else if (d.matches("800..")) {
            return x.about(4) <= nn;
        } else if (d.matches("900..")) {
            return x.about(1) >= nn;
        }
        return !got.startsWith("throws");
    }

    /** All 100000 groups as scripts of one command: each edge of each digit. */
    private static void everyGroup() {
        ShoutGates x = busy();
        for (int group = 0; group < 100000; group++) {
            if (group % 400 == 0) {
                x = busy();
            }
            ShoutGates scripted = x;
            int script = group;
            String digits = String.format("%05d", group);
            int want = digits.charAt(0) != '0' && succeeds(busy(), digits) ? NONE : 0;
            due("script " + digits, () -> scripted.runScript(1, script), want);
        }
    }

    private static void ticksOfAScript() {
        ShoutGates x = new ShoutGates();
        due("ticks 0", () -> x.runScript(1, 50000), 0);
        due("ticks 1", () -> x.runScript(1, 50001), NONE);
        due("ticks 50", () -> x.runScript(1, 50050), NONE);
        due("ticks 51", () -> x.runScript(1, 50051), 0);
        due("ticks 99", () -> x.runScript(1, 50099), 0);
        ShoutGates out = loaded(HEAD + "o00");
        due("6 ticks, at a gate", () -> out.runScript(2, 5000670001L), NONE);
        due("7 ticks, outside", () -> out.runScript(2, 5000770002L), NONE);
        due("7 ticks, at a gate", () -> out.runScript(2, 5000770001L), 1);
        // The eleventh book of the row is shouted in tick 101, that is after 2 scripts of 50.
        ShoutGates row = loaded("L15000019t000t001t002t003t004t005t106t107t108t109t110t111o00o10n1");
        due("100 ticks, 11 shouts", () -> row.runScript(3, 500505005090011L), NONE);
        due("99 ticks, 10 shouts", () -> row.runScript(3, 500505004990011L), 2);
        due("99 ticks, at least 10 shouts", () -> row.runScript(3, 500505004990010L), NONE);
    }

    private static void countsOfAScript() {
        // 5 books slipped out 3 times.
        ShoutGates x = loaded("L00000010t000t001t002t003t004o00n7i00r0n1i00r0n1");
        due("15 slipped out", () -> x.about(4), 15);
        due("at most 15", () -> x.runScript(1, 80015), NONE);
        due("at most 14", () -> x.runScript(1, 80014), 0);
        due("at most 99", () -> x.runScript(1, 80099), NONE);
        for (int i = 0; i < 17; i++) {
            x.walk(0, 0, false);
            x.turn(0);
            x.ticks(1);
        }
        due("100 slipped out", () -> x.about(4), 100);
        due("at most 99, but 100", () -> x.runScript(1, 80099), 0);
        ShoutGates none = new ShoutGates();
        due("none, at most 0", () -> none.runScript(1, 80000), NONE);
        due("none, at least 0", () -> none.runScript(1, 90000), NONE);
        due("none, at least 1", () -> none.runScript(1, 90001), 0);
        due("2 shouts, at least 2", () -> busy().runScript(1, 90002), NONE);
        due("2 shouts, at least 3", () -> busy().runScript(1, 90003), 0);
        due("at most 0, but some were caught", () -> busy().runScript(1, 80000), NONE);
        ShoutGates loud = loaded("L15000010t000t001t002t003t004o00");
        for (int i = 0; i < 20; i++) {
            loud.ticks(5);
            loud.turn(0);
            loud.ticks(6);
            loud.walk(0, 0, true);
        }
        due("100 shouts", () -> loud.about(1), 100);
        due("100 shouts, at least 99", () -> loud.runScript(1, 90099), NONE);
    }

    private static void firstThatFails() {
        ShoutGates x = busy();
        String[] groups = {"90000", "90099"};
        for (int bits = 0; bits < 8; bits++) {
            String script = groups[bits & 1] + groups[bits >> 1 & 1] + groups[bits >> 2];
            for (int n = 1; n <= 3; n++) {
                int count = n;
                int first = Integer.numberOfTrailingZeros(bits & (1 << n) - 1);
                due("the first of " + n + " in " + script,
                    () -> x.runScript(count, Long.parseLong(script.substring(0, 5 * count))), first < n ? first : NONE);
            }
        }
    }

    private static void scriptsGoOnFromThere() {
        ShoutGates x = new ShoutGates();
        due("taken, then on the shelf no more", () -> x.runScript(2, 1012010120L), 1);
        due("taken, put back, taken", () -> x.runScript(3, 101202012015120L), NONE);
        due("borrowed twice", () -> x.runScript(2, 2000120001L), 1);
        due("borrowed, brought back, brought back", () -> x.runScript(3, 200012000220002L), 2);
        due("out, turned, turned", () -> x.runScript(3, 302104000040000L), NONE);
        due("out, in from the gate", () -> x.runScript(2, 3021030200L), 1);
        due("out, 7 ticks, in", () -> x.runScript(3, 302105000730000L), NONE);
        due("out, 6 ticks, in", () -> x.runScript(3, 302105000630000L), 2);
        ShoutGates full = withBooks(5);
        due("a sixth and a seventh book", () -> full.runScript(2, 1019010180L), 1);
        ShoutGates walking = loaded("L00000010t000");
        due("out, 7 ticks, at most 0 slipped out", () -> walking.runScript(3, 300105000780000L), 2);
        due("out, 6 ticks, at most 0 slipped out", () -> walking.runScript(3, 300105000680000L), NONE);
        ShoutGates read = loaded("L05000010t000");
        due("out, a tick, told", () -> read.runScript(3, 300105000160001L), NONE);
        due("out, a tick, not told", () -> read.runScript(3, 300105000160000L), 2);
        due("what fails does nothing", () -> read.runScript(3, 300100000060001L), 1);
        ShoutGates remembered = new ShoutGates();
        due("each script begins anew", () -> remembered.runScript(1, 20001), NONE);
        due("each script begins anew, again", () -> remembered.runScript(1, 20001), NONE);
    }

    private static void scriptsChangeNothing() {
        long[] scripts = {140005000730200L, 200172000530010L, 101205005040000L, 500505005050050L, 411002001250050L, 0};
        for (long script : scripts) {
            changesNothing("runScript 3, " + script, Checks::busy, x -> x.runScript(3, script));
        }
    }

    // ---- promise 25

    private static final BigInteger FACTOR = new BigInteger("6364136223846793005");
    private static final BigInteger MORE = new BigInteger("1442695040888963407");

    private static void simulateRefused() {
        for (int m : outside(1, 99)) {
            for (long seed : new long[] {0, Long.MIN_VALUE}) {
                refused("simulate " + seed + ", " + m, Checks::busy, x -> x.simulate(seed, m), ARGUMENT);
            }
        }
        refused("simulate 0 turns", ShoutGates::new, x -> x.simulate(1, 0), ARGUMENT);
    }

    /** One turn done with the calls of the face: three of them at most. */
    private static void turnOf(ShoutGates x, int r) {
        int v = r / 8 % 6;
        int b = r / 64 % 20;
        int g = r / 2048 % 3;
        int kind = r % 8;
        if (kind <= 1) {
            answer(() -> x.take(v, b));
        } else if (kind == 2) {
            boolean borrowed = x.book(b, 1) == 1;
            answer(() -> borrowed ? x.bringBack(b) : x.borrow(b));
        } else if (kind <= 4) {
            boolean inside = x.visitor(v, 0) == 0;
            answer(() -> x.walk(v, g, inside));
        } else if (kind == 5) {
            answer(() -> x.turn(v));
        }
        x.ticks(1);
    }

    private static int replayed(ShoutGates x, long seed, int m) {
        int shouts = x.about(1);
        int caught = x.about(3);
        int slipped = x.about(4);
        BigInteger next = BigInteger.valueOf(seed);
        for (int i = 0; i < m; i++) {
            next = next.multiply(FACTOR).add(MORE).mod(BigInteger.ONE.shiftLeft(64));
            turnOf(x, next.shiftRight(33).intValueExact());
        }
        return 10000 * (x.about(1) - shouts) + 100 * (x.about(3) - caught) + x.about(4) - slipped;
    }

    private static void simulateTurns() {
        long[] edges = {0, 1, -1, Long.MAX_VALUE, Long.MIN_VALUE, Long.MAX_VALUE - 1, Long.MIN_VALUE + 1, 1L << 32, 1L << 33};
        String[] starts = {"L15151510", "L04000421", "L00000010", "L07070739t000t101o00o11", "L15150010t000t001t102b00o00n7"};
        int[] turns = {1, 2, 50, 98, 99};
        for (int i = 0; i < edges.length + 60; i++) {
            long seed = i < edges.length ? edges[i] : 0x9E3779B97F4A7C15L * i;
            String start = starts[i % starts.length];
            for (int m : turns) {
                int want = replayed(loaded(start), seed, m);
                due(start + ", simulate " + seed + ", " + m, () -> loaded(start).simulate(seed, m), want);
            }
            due("busy, simulate " + seed, () -> busy().simulate(seed, 99), replayed(busy(), seed, 99));
        }
    }

    /** The least seed from 0 on whose first turn has this r % 8, v, b and g, of these that are not negative. */
    private static long seedOf(int kind, int v, int b, int g) {
        for (long seed = 0; seed < 1000000; seed++) {
            int r = (int) ((seed * 6364136223846793005L + 1442695040888963407L) >>> 33);
            if (r % 8 == kind && (v < 0 || r / 8 % 6 == v) && (b < 0 || r / 64 % 20 == b) && (g < 0 || r / 2048 % 3 == g)) {
                return seed;
            }
        }
        throw new IllegalStateException("no seed");
    }

    private static void firstTurn(String what, String start, long seed, int want) {
        due("simulate a turn: " + what, () -> loaded(start).simulate(seed, 1), want);
    }

    private static void simulateEachKind() {
        // A visitor who walks out by a gate that is strong enough is read in the tick of that turn.
        for (int kind = 3; kind <= 4; kind++) {
            for (int v = 0; v < 6; v += 5) {
                for (int g = 0; g < 3; g++) {
                    String start = "L" + "000000".substring(0, 2 * g) + "05" + "000000".substring(2 * g + 2) + "10t" + v + "00";
                    firstTurn(kind + " walks out by " + g, start, seedOf(kind, v, -1, g), 10000);
                    firstTurn(kind + " walks out by another one", start, seedOf(kind, v, -1, (g + 1) % 3), 0);
                    firstTurn(kind + " walks out with none", start, seedOf(kind, 5 - v, -1, g), 0);
                }
            }
            String at3 = "L00000010t000o00n6";
            firstTurn(kind + " is left out at a gate", at3, seedOf(kind, 0, -1, 0), 1);
            String out = "L00000010t000o00n7";
            firstTurn(kind + " walks in", out, seedOf(kind, 0, -1, 0), 0);
        }
        String low = "L05000010t000o00";
        firstTurn("5 turns it", low, seedOf(5, 0, -1, -1), 0);
        firstTurn("5 turns another one", low, seedOf(5, 1, -1, -1), 10000);
        firstTurn("6 is nothing", low, seedOf(6, 0, 0, 0), 10000);
        firstTurn("7 is nothing", low, seedOf(7, 0, 0, 0), 10000);
        String at3 = "L00000010t000t001o00n6";
        firstTurn("a borrow at a gate is left out", at3, seedOf(2, -1, 0, -1), 2);
        firstTurn("a take of a seventh is left out", "L00000010t000t001t002t003t004t005o00n6", seedOf(0, 0, 6, -1), 6);
        firstTurn("a take at a gate is left out", at3, seedOf(1, 0, 6, -1), 2);
    }

    private static void simulateCountsItsOwn() {
        String caught = "L15000010t000o00n7";
        firstTurn("what was caught before", caught, seedOf(6, -1, -1, -1), 0);
        String slipped = "L00000010t000o00n7";
        firstTurn("what slipped out before", slipped, seedOf(7, -1, -1, -1), 0);
        firstTurn("six are caught", "L15000010t000t001t002t003t004t005o00n6", seedOf(6, -1, -1, -1), 600);
        firstTurn("six slip out", "L00000010t000t001t002t003t004t005o00n6", seedOf(6, -1, -1, -1), 6);
        firstTurn("three gates shout", "L05050510t000t101t202o00o11o22", seedOf(6, -1, -1, -1), 30000);
        due("nothing in 1 turn", () -> new ShoutGates().simulate(seedOf(6, -1, -1, -1), 1), 0);
    }

    private static void simulateChangesNothing() {
        for (long seed : new long[] {0, Long.MAX_VALUE, Long.MIN_VALUE}) {
            changesNothing("simulate " + seed + ", 1", Checks::busy, x -> x.simulate(seed, 1));
            changesNothing("simulate " + seed + ", 99", Checks::busy, x -> x.simulate(seed, 99));
        }
    }
}
