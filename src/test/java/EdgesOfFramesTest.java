import java.util.Arrays;
import java.util.NoSuchElementException;
import java.util.function.Supplier;

/** The paragraph "Frames" and the promises 38 to 43, sentence by sentence, at their edges. */
public final class EdgesOfFramesTest {

    private static final Check check = new Check("edges of frames");
    private static final Ranges ranges = new Ranges(check);
    private static final Supplier<Ringtrack> SQUARE = () -> Rings.disc(2, 0);
    private static final Supplier<Ringtrack> NO_DISC = () -> Rings.ofReflected(2);

    public static void main(String[] args) {
        framesOfAngles();
        framesOfStates();
        nineUnderWay();
        delays();
        orderOfArriving();
        bitsOfThoseUnderWay();
        takenFirstFirst();
        manyThatArrived();
        checksThatHold();
        send();
        flip();
        flipRefuses();
        lose();
        tick();
        take();
        bad();
        check.end();
    }

    /** A new disc tells 0, of which each frame is 0. */
    private static Ringtrack sent(int... delays) {
        Ringtrack x = SQUARE.get();
        for (int delay : delays) {
            x.send(delay);
        }
        return x;
    }

    private static void flipAll(Ringtrack x, int index, int... bits) {
        for (int bit : bits) {
            x.flip(index, bit);
        }
    }

    // ---- Terms: Frames

    private static final String FRAME = "A frame is 4 times what is told, and 0, 1 or 2 for 't', 'd' and 's', together"
            + " called its number, times 16, and its number modulo 13.";

    private static void framesOfAngles() {
        check.says(FRAME);
        Ringtrack x = Rings.disc(6, 0);
        check.same("send(1) of 0", x.send(1), 0);
        int[][] due = {{0, 8, 518}, {1, 24, 1541}, {2, 40, 2564}, {3, 56, 3587}, {63, 1016, 65032}};
        for (int[] row : due) {
            x.power(false);
            x.turn((16 * row[0] - x.angle()) / 2);
            x.turn(16 * row[0] - x.angle());
            x.power(true);
            check.same("told()", x.told(), row[1]);
            check.same("send(1) of " + row[1], x.send(1), row[2]);
        }
        x.power(false);
        check.same("send(1) without power", x.send(1), 65032);
    }

    /** The number of 8 is 32, 33 or 34: 6, 7 or 8 modulo 13. */
    private static void framesOfStates() {
        check.says(FRAME);
        Ringtrack x = Rings.typedDisc(0, Rings.SIX);
        x.turn(0);
        check.same("send(1) of 8, 't'", x.send(1), 32 * 16 + 6);
        x.stick(0, 1, 1);
        x.turn(0);
        check.same("send(1) of 8, 'd'", x.send(1), 33 * 16 + 7);
        x.stick(1, 1, 0);
        x.turn(0);
        check.same("send(1) of 8, 's'", x.send(1), 34 * 16 + 8);
        x.tick(1);
        check.same("take() of 8, 't'", x.take(), 8);
        check.same("take() of 8, 'd'", x.take(), 8);
        check.same("take() of 8, 's'", x.take(), 8);
        Ringtrack y = SQUARE.get();
        y.setLimit(8);
        y.turn(16);
        check.same("send(1) of 0, 's'", y.send(1), 2 * 16 + 2);
    }

    private static final String NINE = "At most 9 are under way, each with a delay of 1 to 9 ticks.";

    private static void nineUnderWay() {
        check.says(NINE);
        Ringtrack x = sent(1, 2, 3, 4, 5, 6, 7, 8);
        check.missing("flip(8, 0) of 8", () -> x.flip(8, 0));
        check.same("send(9) as the ninth one", x.send(9), 0);
        check.same("flip(8, 0) of 9", x.flip(8, 0), 1);
        check.full("send(1) at 9", () -> x.send(1));
        x.tick(1);
        check.same("send(1) when one arrived", x.send(1), 0);
        check.full("send(1) at 9 again", () -> x.send(1));
        check.same("lose(0)", x.lose(0), 1);
        check.same("send(1) when one is lost", x.send(1), 0);
        check.full("send(1) at 9 once more", () -> x.send(1));
        check.same("take(): one that arrived was not under way", x.take(), 0);
        check.full("send(1) when one is taken", () -> x.send(1));
    }

    private static void delays() {
        check.says(NINE);
        for (int delay = 1; delay <= 9; delay++) {
            Ringtrack x = sent(delay);
            for (int ticks = 1; ticks < delay; ticks++) {
                check.same("tick(1) as number " + ticks + " of " + delay, x.tick(1), 0);
            }
            check.missing("take() before the last tick of " + delay, () -> x.take());
            check.same("the last tick of " + delay, x.tick(1), 1);
            check.same("the next tick of " + delay, x.tick(1), 0);
            check.same("take()", x.take(), 0);
        }
        ranges.outOfRange("send", SQUARE, 1, 9, Ringtrack::send);
    }

    private static final String ARRIVES = "As its ticks are over, it arrives; those that arrive at once in the order in"
            + " which they were sent.";

    /** Sends frames that tell 8, 24, 40 .. with these delays. */
    private static Ringtrack telling(int... delays) {
        Ringtrack x = Rings.disc(6, 0);
        for (int k = 0; k < delays.length; k++) {
            x.turn(k == 0 ? 0 : 16);
            x.send(delays[k]);
        }
        return x;
    }

    private static void taken(String when, Ringtrack x, int... due) {
        for (int angle : due) {
            check.same("take() " + when, x.take(), angle);
        }
        check.missing("take() of no more, " + when, () -> x.take());
    }

    private static void orderOfArriving() {
        check.says(ARRIVES);
        Ringtrack alike = telling(2, 2, 2);
        check.same("tick(2)", alike.tick(2), 3);
        taken("of like delays", alike, 8, 24, 40);
        Ringtrack back = telling(3, 2, 1);
        check.same("tick(3)", back.tick(3), 3);
        taken("of delays 3, 2, 1", back, 40, 24, 8);
        Ringtrack most = telling(9, 9, 1, 8, 9, 1, 7, 7, 9);
        check.same("tick(20)", most.tick(20), 9);
        taken("of nine", most, 40, 88, 104, 120, 56, 8, 24, 72, 136);
        Ringtrack later = telling(3);
        later.tick(2);
        later.turn(16);
        later.send(1);
        later.turn(16);
        later.send(2);
        check.same("tick(1)", later.tick(1), 2);
        check.same("tick(1)", later.tick(1), 1);
        taken("of those sent later", later, 8, 24, 40);
        Ringtrack lost = telling(1, 3, 1, 3);
        lost.flip(1, 15);
        lost.flip(2, 15);
        lost.lose(15);
        check.same("tick(3)", lost.tick(3), 2);
        taken("of those not lost", lost, 8, 56);
    }

    private static void bitsOfThoseUnderWay() {
        check.says("Bits of those under way can be turned.");
        for (int bit = 0; bit <= 15; bit++) {
            Ringtrack x = sent(1, 2);
            check.same("flip(0, " + bit + ")", x.flip(0, bit), 1 << bit);
            check.same("flip(1, " + bit + ")", x.flip(1, bit), 1 << bit);
            check.same("flip(0, " + bit + ") back", x.flip(0, bit), 0);
            check.same("checksum()", x.checksum(), ((((7L * 961 * 961 * 961) * 31) * 31) + (1 << bit)));
        }
        Ringtrack x = sent(1);
        x.tick(1);
        check.missing("flip(0, 0) of one that arrived", () -> x.flip(0, 0));
    }

    private static final String TAKEN = "One that arrived is taken, the first one first; its check holds if its last 4"
            + " bits are its number modulo 13.";

    private static void takenFirstFirst() {
        check.says(TAKEN);
        Ringtrack x = telling(1, 1, 2);
        check.missing("take() of none that arrived", () -> x.take());
        x.tick(1);
        check.same("take() of the first one", x.take(), 8);
        x.tick(1);
        check.same("take() of the second one", x.take(), 24);
        check.same("take() of the third one", x.take(), 40);
        check.missing("take() of no more", () -> x.take());
        check.missing("take() of no more again", () -> x.take());
    }

    /** In 450 calls 9 frames arrive again and again, of another place each time. */
    private static void manyThatArrived() {
        check.says(TAKEN);
        Ringtrack x = Rings.disc(6, 0);
        for (int k = 0; k < 40; k++) {
            x.turn(k == 0 ? 0 : 16);
            for (int sent = 0; sent < 9; sent++) {
                x.send(1);
            }
            check.same("tick(1)", x.tick(1), 9);
        }
        for (int k = 0; k < 63; k++) {
            check.same("take() as number " + k + " of 360", x.take(), 16 * (k / 9) + 8);
        }
    }

    /** Turns bits of a frame that is 0, and takes it. */
    private static void holds(int due, int... bits) {
        Ringtrack x = sent(1);
        flipAll(x, 0, bits);
        x.tick(1);
        String which = Arrays.toString(bits);
        check.same("take() with the bits " + which, x.take(), due);
        check.same("bad() with the bits " + which, x.bad(), due < 0 ? 1 : 0);
    }

    private static void checksThatHold() {
        check.says(TAKEN);
        holds(0);
        holds(-1, 0);
        holds(-1, 3);
        holds(-1, 0, 2, 3);
        holds(-1, 4);
        holds(0, 4, 0);
        holds(0, 5, 4, 1, 0);
        holds(1, 6, 2);
        holds(3, 4, 6, 7);
        holds(-1, 4, 6, 7, 0, 2, 3);
        holds(-1, 15);
        holds(512, 15, 0, 1, 2);
        holds(1023, 15, 14, 13, 12, 11, 10, 9, 8, 7, 6, 5, 4);
        holds(-1, 15, 14, 13, 12, 11, 10, 9, 8, 7, 6, 5, 4, 0, 2, 3);
        holds(-1, 15, 14, 13, 12, 11, 10, 9, 8, 7, 6, 5, 4, 0, 1, 2, 3);
    }

    // ---- promises 38 to 43

    private static void send() {
        check.says(38, "- `delay`: 1 to 9");
        ranges.within("send", SQUARE, 1, 9, Ringtrack::send, n -> 0);
        check.says(38, "Returns the frame as a number.");
        Ringtrack x = SQUARE.get();
        x.turn(0);
        check.same("send(1)", x.send(1), 518);
        check.says(38, "Throws `UnsupportedOperationException` if there is no disc");
        check.unsupported("send(1)", () -> NO_DISC.get().send(1));
        check.unsupported("send(0)", () -> NO_DISC.get().send(0));
        check.says(38, "Throws `IllegalArgumentException` if a number is out of range");
        ranges.outOfRange("send", SQUARE, 1, 9, Ringtrack::send);
        ranges.outOfRange("send at 8", () -> sent(9, 9, 9, 9, 9, 9, 9, 9), 1, 9, Ringtrack::send);
        ranges.outOfRange("send at 9", () -> sent(9, 9, 9, 9, 9, 9, 9, 9, 9), 1, 9, Ringtrack::send);
        check.says(38, "Throws `IllegalStateException` if 9 are under way");
        ranges.within("send at 8", () -> sent(9, 9, 9, 9, 9, 9, 9, 9), 1, 9, Ringtrack::send, n -> 0);
        ranges.within("send at 9", () -> sent(9, 9, 9, 9, 9, 9, 9, 9, 9), 1, 9, (y, n) -> {
            check.full("send(" + n + ") at 9", () -> y.send(n));
            return y.tick(9);
        }, n -> 9);
    }

    private static void flip() {
        check.says(39, "Turns a bit of a frame under way, the first one sent first.");
        Ringtrack x = telling(3, 1, 2);
        check.same("flip(0, 0) of 518", x.flip(0, 0), 519);
        check.same("flip(1, 0) of 1541", x.flip(1, 0), 1540);
        check.same("flip(2, 0) of 2564", x.flip(2, 0), 2565);
        x.tick(1);
        check.same("flip(1, 1) of 2565", x.flip(1, 1), 2567);
        check.same("flip(0, 0) of 519", x.flip(0, 0), 518);
        x.tick(1);
        check.same("flip(0, 0) of 518 alone", x.flip(0, 0), 519);
        check.says(39, "- `bit`: 0 to 15");
        ranges.within("flip(0, .)", () -> sent(1), 0, 15, (y, n) -> y.flip(0, n), n -> 1 << n);
        check.says(39, "- `index`: the index, from 0");
        ranges.within("flip(., 0)", () -> sent(1, 2, 3, 4, 5, 6, 7, 8, 9), 0, 8, (y, n) -> y.flip(n, 0), n -> 1);
        check.says(39, "Returns the frame then.");
        check.same("flip(0, 15)", sent(1).flip(0, 15), 32768);
    }

    private static void flipRefuses() {
        check.says(39, "Throws `NoSuchElementException` if there is no such frame");
        check.missing("flip(0, 0) of a new object", () -> new Ringtrack().flip(0, 0));
        check.missing("flip(0, 0) without a disc", () -> NO_DISC.get().flip(0, 0));
        check.missing("flip(0, 16) without a disc", () -> NO_DISC.get().flip(0, 16));
        for (int count : new int[] {0, 1, 9}) {
            Supplier<Ringtrack> fresh = () -> sent(Arrays.copyOf(new int[] {9, 8, 7, 6, 5, 4, 3, 2, 1}, count));
            ranges.beyond("flip(., 0) of " + count, fresh, 0, count - 1, (y, n) -> y.flip(n, 0),
                    NoSuchElementException.class);
            ranges.beyond("flip(., 16) of " + count, fresh, 0, count - 1, (y, n) -> y.flip(n, 16),
                    NoSuchElementException.class);
        }
        check.says(39, "Throws `IllegalArgumentException` if a number is out of range");
        ranges.outOfRange("flip(0, .)", () -> sent(1), 0, 15, (y, n) -> y.flip(0, n));
    }

    private static void lose() {
        check.says(40, "- `bit`: 0 to 15");
        ranges.within("lose of none", Ringtrack::new, 0, 15, Ringtrack::lose, n -> 0);
        ranges.within("lose of two of three", () -> {
            Ringtrack x = sent(1, 2, 3);
            flipAll(x, 0, 0, 1, 14, 15);
            flipAll(x, 2, 0, 1, 14, 15);
            return x;
        }, 0, 15, Ringtrack::lose, n -> 2);
        check.says(40, "Loses all frames under way that have a bit.");
        Ringtrack x = telling(1, 2, 3, 4, 5);
        check.same("lose(2): 518, 1541, 2564", x.lose(2), 3);
        check.same("flip(0, 0) of 3587, which stays", x.flip(0, 0), 3586);
        check.same("flip(1, 1) of 4610, which stays", x.flip(1, 1), 4608);
        check.missing("flip(2, 0)", () -> x.flip(2, 0));
        check.same("tick(3)", x.tick(3), 0);
        check.same("tick(1)", x.tick(1), 1);
        check.same("lose(1) of 3586, which arrived", x.lose(1), 0);
        check.same("take()", x.take(), -1);
        check.says(40, "Returns how many.");
        check.same("lose(4) of frames that are 0", sent(1, 2).lose(4), 0);
        Ringtrack nine = sent(1, 2, 3, 4, 5, 6, 7, 8, 9);
        for (int k = 0; k < 9; k++) {
            nine.flip(k, 15);
        }
        check.same("lose(15) of 9", nine.lose(15), 9);
        check.same("lose(15) of no more", nine.lose(15), 0);
        check.same("tick(20): those lost do not arrive", nine.tick(20), 0);
        check.same("bad(): those lost were not taken", nine.bad(), 0);
        check.says(40, "Throws `IllegalArgumentException` if a number is out of range");
        ranges.outOfRange("lose of none", Ringtrack::new, 0, 15, Ringtrack::lose);
        ranges.outOfRange("lose", () -> sent(1, 2), 0, 15, Ringtrack::lose);
    }

    private static void tick() {
        check.says(41, "- `ticks`: 1 to 20");
        ranges.within("tick of none", Ringtrack::new, 1, 20, Ringtrack::tick, n -> 0);
        ranges.within("tick of 1, 2, 3, 9", () -> sent(1, 2, 3, 9), 1, 20, Ringtrack::tick,
                n -> n == 1 ? 1 : n == 2 ? 2 : 4);
        check.says(41, "Returns how many frames arrived.");
        Ringtrack x = sent(9, 2, 2, 5);
        check.same("tick(1)", x.tick(1), 0);
        check.same("tick(1)", x.tick(1), 2);
        check.same("tick(2)", x.tick(2), 0);
        check.same("tick(4)", x.tick(4), 1);
        check.same("tick(20)", x.tick(20), 1);
        check.same("tick(20) of no more", x.tick(20), 0);
        check.says(41, "Throws `IllegalArgumentException` if a number is out of range");
        ranges.outOfRange("tick of none", Ringtrack::new, 1, 20, Ringtrack::tick);
        ranges.outOfRange("tick", () -> sent(1, 2), 1, 20, Ringtrack::tick);
    }

    private static void take() {
        check.says(42, "Returns the angle that it tells, -1 if its check does not hold.");
        Ringtrack x = telling(1, 1, 1);
        x.flip(1, 2);
        x.tick(1);
        taken("with a second one that does not hold", x, 8, -1, 40);
        check.says(42, "Throws `NoSuchElementException` if none arrived");
        check.missing("take() of a new object", () -> new Ringtrack().take());
        check.missing("take() of none that was sent", () -> SQUARE.get().take());
        check.missing("take() of one under way", () -> sent(1).take());
        check.same("bad()", x.bad(), 1);
    }

    private static void bad() {
        check.says(43, "Returns how many frames that were taken did not hold.");
        check.same("bad() of a new object", new Ringtrack().bad(), 0);
        Ringtrack x = telling(1, 1, 1, 1);
        x.flip(0, 2);
        x.flip(2, 15);
        x.flip(3, 0);
        check.same("bad() of those under way", x.bad(), 0);
        x.tick(1);
        check.same("bad() of those that arrived", x.bad(), 0);
        check.says(43, "Returns their number.");
        int[] due = {1, 1, 2, 3};
        for (int k = 0; k < 4; k++) {
            x.take();
            check.same("bad() of " + (k + 1) + " taken", x.bad(), due[k]);
        }
        check.missing("take() of no more", () -> x.take());
        check.same("bad() behind that", x.bad(), 3);
    }
}
