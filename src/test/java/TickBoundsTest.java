/** The boundary cases of what happens in a tick, from promise 17 and the section 'A TICK'. */
public final class TickBoundsTest extends Checks {
    public static void main(String[] args) {
        aboveThree();
        belowMinusThree();
        caughtOrSlipped();
        toldInTheLastTick();
        eachTime();
        borrowedOnesNeither();
        forgottenInside();
        keptOfTheOthers();
        forgottenBeforeTheShout();
        keptOutside();
        readsUpToTheSureness();
        moreThanTheSureness();
        readingEndsWithTelling();
        neighborsOfOneTick();
        orderOfGatesAndBooks();
        quietTimes();
        quietGatesWaitAlone();
        end("TickBoundsTest");
    }

    // ---- who goes on

    private static void aboveThree() {
        ShoutGates x = loaded(HEAD + "o00n1o11");
        for (int tick = 2; tick <= 9; tick++) {
            int t = tick;
            x.ticks(1);
            due("visitor 0 after " + t, () -> x.visitor(0, 0), t < 7 ? 1 : 2);
            due("visitor 0's place after " + t, () -> x.visitor(0, 2), t < 7 ? t - 3 : NONE);
            due("visitor 1 after " + t, () -> x.visitor(1, 0), t < 8 ? 1 : 2);
            due("visitor 1's place after " + t, () -> x.visitor(1, 2), t < 8 ? t - 4 : NONE);
            due("those outside after " + t, () -> x.about(8), (t < 7 ? 0 : 1) + (t < 8 ? 0 : 1));
        }
    }

    private static void belowMinusThree() {
        ShoutGates x = loaded(HEAD + "o00n7i02");
        for (int tick = 1; tick <= 8; tick++) {
            int t = tick;
            x.ticks(1);
            due("in after " + t, () -> x.visitor(0, 0), t < 7 ? 1 : 0);
            due("in, the place after " + t, () -> x.visitor(0, 2), t < 7 ? 3 - t : NONE);
        }
        due("those inside stand still", () -> x.about(7) + x.about(8), 0);
        ShoutGates low = loaded(HEAD + "o00n1r0n1");
        due("back at -3 it is at the gate", () -> low.visitor(0, 0), 1);
        low.ticks(1);
        due("then it is inside", () -> low.visitor(0, 0), 0);
        ShoutGates high = loaded(HEAD + "o00n6r0n1r0n1");
        due("again at 3 it is at the gate", () -> high.visitor(0, 0), 1);
        high.ticks(1);
        due("then it is outside", () -> high.visitor(0, 0), 2);
    }

    // ---- caught, slipped out, forgotten

    private static void caughtOrSlipped() {
        ShoutGates x = loaded("L03000020t000t001o00n6");
        // 2 books need 2 at 0, 4 beside it: one read alone.
        due("read once", () -> x.book(0, 2), 1);
        due("at 3 nothing has slipped out", () -> x.about(4), 0);
        x.ticks(1);
        due("both slipped out", () -> x.about(4), 2);
        due("none was caught", () -> x.about(3), 0);
        ShoutGates y = loaded("L04000020t000t001o00n6");
        due("read as often as the sureness", () -> y.book(0, 2), 2);
        due("at 3 nothing is caught", () -> y.about(3), 0);
        y.ticks(1);
        due("both are caught", () -> y.about(3), 2);
        due("none slipped out", () -> y.about(4), 0);
        y.ticks(50);
        due("outside nothing more is caught", () -> y.about(3), 2);
        ShoutGates both = loaded("L00000010t000t101o00o10n5");
        // At 3 one book needs 7: both are told there, the one of visitor 0 is gone before.
        both.turn(0);
        both.set(0, 7);
        both.ticks(1);
        both.turn(0);
        both.set(0, 0);
        both.ticks(3);
        due("one was told", () -> both.about(3), 1);
        due("the other was not", () -> both.about(4), 1);
    }

    private static void toldInTheLastTick() {
        // At 3 one book needs 7.
        ShoutGates told = loaded("L00000010t000o00n5");
        told.set(0, 7);
        due("told at 3", () -> told.ticks(1), 1);
        told.ticks(1);
        due("told at 3, caught", () -> told.about(3), 1);
        due("told at 3, not slipped out", () -> told.about(4), 0);
        ShoutGates late = loaded("L00000010t000o00n6");
        late.set(0, 15);
        due("above 3 it is read no more", () -> late.ticks(1), 0);
        due("above 3, slipped out", () -> late.about(4), 1);
        due("above 3, not read", () -> late.book(0, 2), 0);
    }

    private static void eachTime() {
        ShoutGates slipping = loaded("L00000010t000o00n7");
        ShoutGates caught = loaded("L15000010t000o00n7");
        for (int times = 1; times <= 5; times++) {
            int t = times;
            due("slipped out " + t + " times", () -> slipping.about(4), t);
            due("caught " + t + " times", () -> caught.about(3), t);
            due("shouted once alone", () -> caught.book(0, 4), 1);
            slipping.walk(0, 1, false);
            caught.walk(0, 1, false);
            slipping.ticks(2);
            caught.ticks(2);
            slipping.turn(0);
            caught.turn(0);
            slipping.ticks(3);
            caught.ticks(3);
        }
        ShoutGates changed = loaded("L00000010t000o00n7i00r0");
        changed.set(0, 15);
        changed.ticks(1);
        due("first slipped out, again slipped out", () -> changed.about(4), 2);
        changed.walk(0, 0, false);
        changed.ticks(1);
        changed.turn(0);
        changed.ticks(2);
        due("then caught", () -> changed.about(3), 1);
        due("not slipped out a third time", () -> changed.about(4), 2);
    }

    private static void borrowedOnesNeither() {
        ShoutGates x = loaded("L15000010b00t000t001o00n7");
        due("the other one is caught", () -> x.about(3), 1);
        due("the borrowed one is not read", () -> x.book(0, 2), 0);
        due("the borrowed one is not told", () -> x.book(0, 3), 0);
        due("none slipped out", () -> x.about(4), 0);
        ShoutGates y = loaded("L00000010b00t000t001o00n7");
        due("the other one slipped out", () -> y.about(4), 1);
        due("no borrowed one is caught", () -> y.about(3), 0);
        due("nothing in an empty bag", () -> loaded("L15000010o00n7").about(3), 0);
        due("nothing slips out of an empty bag", () -> loaded("L00000010o00n7").about(4), 0);
    }

    private static void forgottenInside() {
        ShoutGates x = loaded("L15000039t000t001o00n2r0n1");
        // 2 reads by gate 0 at -2 and -1; on the way in none.
        due("at -2 the reads stand", () -> x.book(0, 2), 2);
        x.ticks(1);
        due("at -3 they stand too", () -> x.book(1, 2), 2);
        x.ticks(1);
        due("inside they are forgotten", () -> x.book(0, 2) + x.book(1, 2), 0);
        x.walk(0, 0, true);
        x.ticks(2);
        due("so two more reads are two", () -> x.book(0, 2), 2);
        due("and tell nothing", () -> x.book(0, 3), 0);
        x.ticks(1);
        due("but a third one does", () -> x.book(0, 3), 1);
        ShoutGates told = loaded("L15000019t000t001o00n1r0n1");
        due("at -3 it has been told", () -> told.book(0, 3) + told.book(1, 3), 2);
        due("at -3 one waits", () -> told.about(2), 1);
        told.ticks(1);
        due("inside it has not been told", () -> told.book(0, 3) + told.book(1, 3), 0);
        due("inside none waits", () -> told.about(2), 0);
        due("its shouts stand", () -> told.book(0, 4), 1);
        due("the last shout stands", () -> told.shout(0, 1), 0);
        due("the gate stays quiet", () -> told.gate(0, 1), 7);
        told.walk(0, 0, true);
        told.ticks(1);
        due("out again it is told again", () -> told.about(2), 2);
        ShoutGates middle = loaded("L15000019t000t101t002t103t004o00o10n1");
        // 0 is shouted, 1 to 4 wait; visitor 1 goes back inside.
        due("four wait", () -> middle.gate(0, 2), 4);
        middle.turn(1);
        middle.ticks(2);
        due("the two of the other wait", () -> middle.gate(0, 2), 2);
        due("in their order", () -> middle.gate(0, 3), 2);
        middle.set(4, 0);
        middle.ticks(9);
        due("they are shouted", () -> middle.about(1), 3);
        due("the one behind it last", () -> middle.shout(0, 1), 4);
        ShoutGates rows = loaded("L05000519t000t101o00o12n1t202t303t404o20o30o42n1");
        due("two wait at gate 0", () -> rows.gate(0, 2), 2);
        due("one waits at gate 2", () -> rows.gate(2, 2), 1);
        rows.turn(2);
        rows.turn(4);
        rows.ticks(2);
        due("one waits at gate 0", () -> rows.gate(0, 2), 1);
        due("the one that was behind", () -> rows.gate(0, 3), 3);
        due("none waits at gate 2", () -> rows.gate(2, 3), NONE);
    }

    private static void keptOfTheOthers() {
        ShoutGates x = loaded("L05000030t000t101o00n1r0o10n2");
        due("whose visitor is inside, it has no read", () -> x.book(0, 2), 0);
        due("the other visitor's book has its reads", () -> x.book(1, 2), 2);
        ShoutGates told = loaded("L05000020t000t101o10n2o00n1r0n2");
        due("whose visitor came inside, it has no read", () -> told.book(0, 2), 0);
        due("the other one has been told", () -> told.book(1, 3), 1);
        due("the other one has its reads", () -> told.book(1, 2), 2);
        told.ticks(2);
        due("the other one is caught", () -> told.about(3), 1);
    }

    private static void forgottenBeforeTheShout() {
        // Of two books told in tick 1 the one is shouted, and with a quiet time of 1 the other in tick 3.
        due("shouted at -3", () -> loaded("L15000010t000t001o00n1r0").ticks(1), 1);
        due("not in the tick in which it comes inside", () -> loaded("L15000011t000t001o00n1r0").ticks(2), 0);
        due("else in that tick", () -> loaded("L15000011t000t001o00n1").ticks(2), 1);
        ShoutGates borrowedInside = loaded("L15000010t000o00n1r0n2b00o00");
        due("borrowed then, it is not read again", () -> borrowedInside.ticks(7), 0);
        due("nor caught", () -> borrowedInside.about(3), 0);
    }

    private static void keptOutside() {
        ShoutGates x = loaded("L15000019t000t001o00n7");
        due("outside one waits", () -> x.gate(0, 2), 1);
        due("outside it has been told", () -> x.book(1, 3), 1);
        due("outside the read stands", () -> x.book(1, 2), 1);
        due("the 10th tick is quiet", () -> x.ticks(3), 0);
        due("in the 11th it is shouted", () -> x.ticks(1), 1);
    }

    // ---- reads

    private static void readsUpToTheSureness() {
        // At -2 one book needs 5, so with a strength of 5 there is one read a tick, from -2 to 2.
        for (int sureness = 1; sureness <= 3; sureness++) {
            int s = sureness;
            ShoutGates x = loaded("L050000" + s + "0t000o00");
            for (int tick = 1; tick <= 5; tick++) {
                int t = tick;
                int shouts = x.ticks(1);
                due("sureness " + s + ", reads in tick " + t, () -> x.book(0, 2), Math.min(s, t));
                due("sureness " + s + ", told in tick " + t, () -> x.book(0, 3), t >= s ? 1 : 0);
                due("sureness " + s + ", shouted in tick " + t, () -> shouts, t == s ? 1 : 0);
            }
        }
    }

    private static void moreThanTheSureness() {
        ShoutGates x = loaded("L05000030t000o00n2");
        x.set(3, 1);
        due("a lower sureness tells nothing by itself", () -> x.book(0, 3), 0);
        x.set(0, 0);
        x.ticks(1);
        due("nor does a tick without a read", () -> x.book(0, 3), 0);
        x.set(0, 5);
        due("the next read does", () -> x.ticks(1), 1);
        due("with more reads than the sureness", () -> x.book(0, 2), 3);
        ShoutGates slipping = loaded("L05000030t000o00n2");
        slipping.set(0, 0);
        slipping.set(3, 1);
        slipping.ticks(5);
        due("enough reads, but not told: slipped out", () -> slipping.about(4), 1);
        ShoutGates raised = loaded("L05000010t000o00n1");
        raised.set(3, 3);
        due("a higher sureness leaves what was told", () -> raised.book(0, 3), 1);
        raised.ticks(6);
        due("it is caught", () -> raised.about(3), 1);
    }

    private static void readingEndsWithTelling() {
        ShoutGates x = loaded("L15150010t000o00n5");
        due("one read tells, and no gate reads it again", () -> x.book(0, 2), 1);
        due("one shout for one book", () -> x.about(1), 1);
        due("the gate beside is silent", () -> x.gate(1, 4) + x.gate(1, 2), 0);
    }

    private static void neighborsOfOneTick() {
        // At -2 one book needs 5, beside it 10. Three reads a tick at the gate 1, two at the gates 0 and 2.
        String[] gates = {"o00", "o01", "o02"};
        int[] reads = {2, 3, 2};
        for (int g = 0; g < 3; g++) {
            int n = g;
            ShoutGates x = loaded("L10101030t000" + gates[n] + "n1");
            due("reads at gate " + n, () -> x.book(0, 2), reads[n]);
            due("told at gate " + n, () -> x.book(0, 3), n == 1 ? 1 : 0);
        }
        ShoutGates last = loaded("L10101030t000o01n1");
        due("told at the gate that read last", () -> last.gate(2, 4), 1);
        ShoutGates weak = loaded("L09050930t000o01n1");
        due("9 halved is 4", () -> weak.book(0, 2), 1);
        ShoutGates strong = loaded("L11051130t000o01n1");
        due("11 halved is 5", () -> strong.book(0, 2), 3);
    }

    private static void orderOfGatesAndBooks() {
        ShoutGates books = loaded("L15000010t119t500t118t501t117o10o50n5");
        int[] row = {0, 1, 17, 18, 19};
        for (int k = 0; k < 5; k++) {
            int n = k;
            due("books ascending, whoever has them: " + n, () -> books.shout(4 - n, 1), row[n]);
        }
        ShoutGates gates = loaded("L05050510t019o02t118o11t217o20n1");
        for (int g = 0; g < 3; g++) {
            int n = g;
            due("gates ascending: " + n, () -> gates.shout(2 - n, 0), n);
            due("gates ascending, the book of " + n, () -> gates.shout(2 - n, 1), 17 + n);
            due("gates ascending, the tick of " + n, () -> gates.shout(2 - n, 2), 1);
        }
        ShoutGates lower = loaded("L15150010t000o01n1");
        due("the lower gate reads first", () -> lower.gate(0, 4), 1);
        due("so it is told there", () -> lower.gate(1, 4), 0);
    }

    // ---- quiet gates

    private static void quietTimes() {
        for (int quiet = 0; quiet <= 9; quiet++) {
            int q = quiet;
            ShoutGates x = loaded("L1500001" + q + "t000t001t002o00");
            due("quiet time " + q + ": the first shout", () -> x.ticks(1), 1);
            for (int shout = 2; shout <= 3; shout++) {
                for (int i = 0; i < q; i++) {
                    due("quiet time " + q + ": no shout", () -> x.ticks(1), 0);
                }
                due("quiet time " + q + ": not quiet", () -> x.gate(0, 1), 0);
                due("quiet time " + q + ": the next shout", () -> x.ticks(1), 1);
            }
            due("quiet time " + q + ": the last tick", () -> x.shout(0, 2), 1 + 2 * (q + 1));
        }
    }

    private static void quietGatesWaitAlone() {
        ShoutGates x = loaded("L05000519t000t001o00t102o12n1");
        // With 2 books 6 is needed at -2 and 4 at -1.
        due("gate 2 is quiet", () -> x.gate(2, 1), 9);
        due("gate 0 is not", () -> x.gate(0, 1), 0);
        due("so it shouts", () -> x.ticks(1), 1);
        due("gate 2 is quiet for a tick less", () -> x.gate(2, 1), 8);
        due("gate 0 is quiet", () -> x.gate(0, 1), 9);
        ShoutGates empty = loaded("L15000019t000o00n1");
        due("quiet with no shout waiting", () -> empty.gate(0, 1), 9);
        empty.ticks(9);
        due("its quiet time passes all the same", () -> empty.gate(0, 1), 0);
        empty.take(1, 1);
        empty.walk(1, 0, true);
        due("and a new shout comes at once", () -> empty.ticks(1), 1);
    }
}
