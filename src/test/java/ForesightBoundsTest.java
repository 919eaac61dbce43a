/** The boundary cases of the promises 20 to 23: what would be. */
public final class ForesightBoundsTest extends Checks {
    private static final int ALL_BOOKS = (1 << 20) - 1;
    private static final String TWENTY =
        "t000t001t002t003t004t105t106t107t108t109t210t211t212t213t214t315t316t317t318t319";

    public static void main(String[] args) {
        shoutedRefused();
        shoutedFromOneToNinetyNine();
        shoutedOrNot();
        shoutedBeforeItIsInside();
        slipsLooks();
        slipsFromEachPlace();
        slipsOrNot();
        leastStrengthRefused();
        leastStrengthFromEachPlace();
        leastStrengthOfTheLastPlace();
        leastStrengthWithSureness();
        leastStrengthOfSeveral();
        bestGateRefused();
        bestGateOfEquals();
        bestGateInNinetyNineTicks();
        end("ForesightBoundsTest");
    }

    // ---- promise 20

    private static void shoutedRefused() {
        for (int b : outside(0, 19)) {
            refused("shouted " + b, Checks::busy, x -> x.shouted(b), BOUNDS);
        }
        // Gate 0 is quiet for 1 tick, gate 2 for 8; 2 comes inside in the fifth tick only.
        looked("shouted 4", Checks::busy, x -> x.shouted(4), 2);
        looked("shouted 3", Checks::busy, x -> x.shouted(3), 9);
        looked("shouted 0", Checks::busy, x -> x.shouted(0), NONE);
        looked("shouted 19", Checks::busy, x -> x.shouted(19), NONE);
    }

    private static void shoutedFromOneToNinetyNine() {
        ShoutGates x = loaded("L15000019t000t001t002t003t004t005t106t107t108t109t110t111o00o10");
        // All are told in tick 1, and the book n is shouted in tick 1 + 10 * n.
        for (int b = 0; b < 12; b++) {
            int n = b;
            due("shouted " + n, () -> x.shouted(n), n < 10 ? 1 + 10 * n : NONE);
        }
        x.ticks(1);
        due("shouted in this tick", () -> x.shouted(0), NONE);
        due("shouted in 100 ticks", () -> x.shouted(10), NONE);
        due("shouted in 90 ticks", () -> x.shouted(9), 90);
        x.ticks(1);
        due("shouted in 99 ticks", () -> x.shouted(10), 99);
        x.ticks(1);
        due("shouted in 98 ticks", () -> x.shouted(10), 98);
        due("shouted in 108 ticks", () -> x.shouted(11), NONE);
        x.ticks(7);
        due("shouted in 1 tick", () -> x.shouted(1), 1);
        x.ticks(1);
        due("shouted already", () -> x.shouted(1), NONE);
    }

    private static void shoutedOrNot() {
        due("on the shelf of a new library", () -> new ShoutGates().shouted(0), NONE);
        due("inside", () -> withBooks(6).shouted(5), NONE);
        due("not read by anyone", () -> loaded("L00000010t019o02").shouted(19), NONE);
        due("read in the first tick", () -> loaded("L00000510t019o02").shouted(19), 1);
        due("read twice", () -> loaded("L00000520t019o02").shouted(19), 2);
        due("read three times", () -> loaded("L00000530t019o02").shouted(19), 3);
        due("read at 0 alone", () -> loaded("L00000110t019o02").shouted(19), 3);
        due("borrowed", () -> loaded("L15151510b19t019o02").shouted(19), NONE);
        ShoutGates in = loaded("L00000010t019o02n7i02");
        in.set(2, 15);
        due("on the way in", () -> in.shouted(19), NONE);
        in.turn(0);
        in.ticks(1);
        due("outside, and never read", () -> in.shouted(19), NONE);
        ShoutGates at3 = loaded("L00000010t000o00n5");
        at3.set(0, 7);
        due("read at 3", () -> at3.shouted(0), 1);
        at3.set(0, 6);
        due("not read at 3", () -> at3.shouted(0), NONE);
        due("outside, still waiting", () -> loaded("L15000019t000t001o00n7").shouted(1), 4);
        ShoutGates again = loaded("L15000010t000o00n1r0n2o00");
        due("shouted before, and again", () -> again.shouted(0), 1);
        due("as before", () -> again.book(0, 4), 1);
    }

    private static void shoutedBeforeItIsInside() {
        // At -2, turned: at -3 in the first tick, inside in the second.
        due("shouted at -3", () -> loaded("L15000010t000t001o00n1r0").shouted(1), 1);
        due("inside in the tick of its shout", () -> loaded("L15000011t000t001o00n1r0").shouted(1), NONE);
        due("not turned", () -> loaded("L15000011t000t001o00n1").shouted(1), 2);
    }

    // ---- promise 21

    private static void slipsLooks() {
        looked("slips", Checks::busy, ShoutGates::slips, 0);
        looked("slips of a new library", ShoutGates::new, ShoutGates::slips, 0);
        looked("slips of some", () -> loaded("L00000021t000t101b02t102t203t304o00o11o22n3"), ShoutGates::slips, 3 | 8);
        ShoutGates all = loaded("L00000030" + TWENTY);
        due("nobody walks", all::slips, 0);
        for (int v = 0; v < 4; v++) {
            all.walk(v, v % 3, true);
        }
        due("all slip out", all::slips, ALL_BOOKS);
        due("all slip out, a second look", all::slips, ALL_BOOKS);
        due("the first and the last book", () -> loaded("L00000010t000t519o00o52").slips(), 1 | 1 << 19);
    }

    private static void slipsFromEachPlace() {
        ShoutGates x = loaded("L00000010t000t019o00");
        for (int place = -3; place <= 3; place++) {
            int p = place;
            due("slips from " + p, x::slips, 1 | 1 << 19);
            x.ticks(1);
        }
        due("slips from outside", x::slips, 0);
        due("they have slipped out", () -> x.about(4), 2);
        x.walk(0, 0, false);
        for (int place = 3; place >= -3; place--) {
            int p = place;
            due("slips on the way in from " + p, x::slips, 0);
            x.turn(0);
            due("slips once turned at " + p, x::slips, 1 | 1 << 19);
            x.turn(0);
            x.ticks(1);
        }
        due("slips from inside", x::slips, 0);
    }

    private static void slipsOrNot() {
        due("told in time", () -> loaded("L05000030t000o00").slips(), 0);
        due("one read too few", () -> loaded("L01000020t000o00").slips(), 1);
        due("as many reads as are needed", () -> loaded("L01000010t000o00").slips(), 0);
        due("told by the neighbor", () -> loaded("L00020010t000o00").slips(), 0);
        due("not told by two gates away", () -> loaded("L00001510t000o00").slips(), 1);
        due("borrowed", () -> loaded("L00000010b00t000t001o00").slips(), 2);
        due("told, though the gates are off then", () -> {
            ShoutGates x = loaded("L15000010t000t001o00n1");
            x.set(0, 0);
            return x.slips();
        }, 0);
        due("read, though the gates are off then", () -> {
            ShoutGates x = loaded("L15000020t000t001o00n1");
            x.set(0, 0);
            return x.slips();
        }, 3);
        due("a waiting shout is enough", () -> loaded("L15000019t000t001t002o00").slips(), 0);
        due("read at 3", () -> loaded("L07000010t000o00n5").slips(), 0);
        ShoutGates at3 = loaded("L00000010t000o00n5");
        at3.set(0, 7);
        due("told at 3", at3::slips, 0);
        at3.set(0, 6);
        due("not told at 3", at3::slips, 1);
        ShoutGates twice = loaded("L00000010t000o00n7i00r0");
        due("slips a second time", twice::slips, 1);
        twice.ticks(1);
        due("slipped a second time", () -> twice.about(4), 2);
    }

    // ---- promise 22

    private static void leastStrengthRefused() {
        for (int g : outside(0, 2)) {
            refused("leastStrength " + g, Checks::busy, x -> x.leastStrength(g), BOUNDS);
        }
        for (int g = 0; g < 3; g++) {
            int gate = g;
            looked("leastStrength " + gate, Checks::busy, x -> x.leastStrength(gate), 0);
            looked("leastStrength " + gate + " of a new library", ShoutGates::new, x -> x.leastStrength(gate), 0);
        }
        looked("leastStrength of some", () -> loaded("L00150010t000o00"), x -> x.leastStrength(0), 0);
        looked("leastStrength of some, too", () -> loaded("L00150010t000o00"), x -> x.leastStrength(1), 2);
    }

    private static int orNone(int strength) {
        return strength <= 15 ? strength : NONE;
    }

    /** With a sureness of 1 the best of the places that are still to come decides. */
    private static void leastStrengthFromEachPlace() {
        for (int books = 1; books <= 6; books++) {
            for (int next = -2; next <= 3; next++) {
                int need = books + 2 * Math.max(0, next);
                ShoutGates x = withBooks(books);
                for (int g = 0; g < 3; g++) {
                    x.set(g, 0);
                }
                x.set(3, 1);
                x.walk(0, 1, true);
                for (int place = -2; place < next; place++) {
                    x.ticks(1);
                }
                String what = "leastStrength of " + books + " books that come to " + next;
                due(what, () -> x.leastStrength(1), need);
                due(what + ", beside", () -> x.leastStrength(0), orNone(2 * need));
                due(what + ", on the other side", () -> x.leastStrength(2), orNone(2 * need));
            }
        }
    }

    private static void leastStrengthOfTheLastPlace() {
        ShoutGates x = loaded("L00000010t000t001t002t003t004t005o00n5");
        due("6 books that come to 3", () -> x.leastStrength(0), 12);
        due("6 books that come to 3, beside", () -> x.leastStrength(1), NONE);
        due("6 books that come to 3, two away", () -> x.leastStrength(2), NONE);
        due("1 book that comes to 3, beside", () -> loaded("L00000010t000o00n5").leastStrength(1), 14);
        due("2 books that come to 3, beside", () -> loaded("L00000010t000t001o00n5").leastStrength(1), NONE);
        x.ticks(1);
        for (int g = 0; g < 3; g++) {
            int gate = g;
            due("at 3 it is too late for " + gate, () -> x.leastStrength(gate), NONE);
        }
        x.ticks(1);
        for (int g = 0; g < 3; g++) {
            int gate = g;
            due("outside none slips out by " + gate, () -> x.leastStrength(gate), 0);
        }
        due("at 3 with borrowed ones", () -> loaded("L00000010b00t000o00n6").leastStrength(0), 0);
        due("at 3 with an empty bag", () -> loaded("L00000010o00n6").leastStrength(0), 0);
        ShoutGates told = loaded("L07000010t000o00n6");
        due("at 3, told", () -> told.leastStrength(0), 0);
    }

    private static void leastStrengthWithSureness() {
        // One book from -3: at 0 it needs 1, at -1 and 1 it needs 3, at -2 and 2 it needs 5, at 3 it needs 7.
        due("one read", () -> loaded("L00000010t000o00").leastStrength(0), 1);
        due("two reads", () -> loaded("L00000020t000o00").leastStrength(0), 3);
        due("three reads", () -> loaded("L00000030t000o00").leastStrength(0), 3);
        due("one read beside", () -> loaded("L00000010t000o00").leastStrength(1), 2);
        due("two reads beside", () -> loaded("L00000020t000o00").leastStrength(1), 6);
        due("one of two reads is done", () -> {
            ShoutGates x = loaded("L15000020t000o00n1");
            x.set(0, 0);
            return x.leastStrength(0);
        }, 1);
        // The neighbor of 2 reads once, at 0.
        due("the neighbor reads too", () -> loaded("L00020020t000o00").leastStrength(0), 1);
        due("the neighbors' reads are enough", () -> loaded("L00020010t000o00").leastStrength(0), 0);
        // From 0 on: 1 needs 3, 2 needs 5, 3 needs 7.
        due("three reads from 1 on", () -> loaded("L00000030t000o00n3").leastStrength(0), 7);
        due("three reads from 2 on", () -> loaded("L00000030t000o00n4").leastStrength(0), NONE);
        due("two reads from 2 on, beside", () -> loaded("L00000020t000o00n4").leastStrength(1), 14);
        due("more than the sureness is no more than told", () -> loaded("L15000010t000o00n1").leastStrength(0), 0);
    }

    private static void leastStrengthOfSeveral() {
        due("the heavier bag decides", () -> loaded("L00000010t000t101t102o00o10").leastStrength(0), 2);
        due("the farther one decides", () -> loaded("L00000010t000t101t102o00o11").leastStrength(0), 4);
        due("the other gates help", () -> loaded("L00020010t000t101t102o00o11").leastStrength(0), 0);
        due("the other gates are no help", () -> loaded("L00010010t000t101t102o00o11").leastStrength(0), 4);
        due("one of them is too far", () -> loaded("L00000010t000t101t102o00o12").leastStrength(0), NONE);
        due("one of them turned", () -> loaded("L00000010t000t101t102o00o12n1r1").leastStrength(0), 1);
    }

    // ---- promise 23

    private static void bestGateRefused() {
        for (int v : outside(0, 5)) {
            refused("bestGate " + v, Checks::busy, x -> x.bestGate(v), BOUNDS);
        }
        refused("bestGate outside", Checks::busy, x -> x.bestGate(0), STATE);
        refused("bestGate on the way out", Checks::busy, x -> x.bestGate(1), STATE);
        refused("bestGate on the way in", Checks::busy, x -> x.bestGate(2), STATE);
        refused("bestGate at -3", () -> loaded(HEAD + "o00"), x -> x.bestGate(0), STATE);
        refused("bestGate at -3 on the way in", () -> loaded(HEAD + "o00n7i00n6"), x -> x.bestGate(0), STATE);
        looked("bestGate with 6 books", Checks::busy, x -> x.bestGate(3), 0);
        looked("bestGate with none", Checks::busy, x -> x.bestGate(4), 0);
        looked("bestGate of some", () -> loaded("L15000010t500"), x -> x.bestGate(5), 2);
        looked("bestGate of all", () -> loaded("L15000010" + TWENTY + "o00o10o20"), x -> x.bestGate(3), 2);
        due("bestGate inside again", () -> loaded(HEAD + "o50n7i50n7").bestGate(5), 0);
    }

    private static void bestGateOfEquals() {
        // One book at 0 is read by a gate of 1, beside it by one of 2.
        String[] gates = {"000000", "010000", "000100", "000001", "020000", "000002", "010100", "010001", "000101", "010101",
            "020001", "010002", "150000", "001500", "000015", "150015"};
        int[] best = {0, 1, 0, 0, 2, 0, 2, 1, 0, 0, 0, 0, 2, 0, 0, 0};
        for (int i = 0; i < gates.length; i++) {
            ShoutGates x = loaded("L" + gates[i] + "10t000");
            due("bestGate with " + gates[i], () -> x.bestGate(0), best[i]);
        }
        due("a borrowed book is never shouted", () -> loaded("L01000010b00t000").bestGate(0), 0);
        due("one of two is borrowed", () -> loaded("L02000010b00t000t001").bestGate(0), 1);
    }

    /** Nine books wait at gate 2, and the shout of one more comes in the 99th or in the 100th tick. */
    private static void bestGateInNinetyNineTicks() {
        String text = "L05001519t000t001t002t003t004t105t106t107t108t109t210o02o12";
        due("in the 100th tick, at 1 and 2", () -> loaded(text + "n1").bestGate(2), 1);
        due("in the 99th tick", () -> loaded(text + "n2").bestGate(2), 0);
        ShoutGates x = loaded(text + "n1o22");
        due("it would be too late", () -> x.shouted(10), NONE);
        ShoutGates y = loaded(text + "n2o22");
        due("it would be just in time", () -> y.shouted(10), 99);
        // All gates together: what is shouted elsewhere counts for each gate alike.
        due("shouts of others", () -> loaded("L00001510t000t001t002t203o02o12").bestGate(2), 0);
    }
}
