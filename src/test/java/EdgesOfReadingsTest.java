import java.util.function.Supplier;

/** The paragraphs "Readings" and "Starting" and the promises 22 to 33, sentence by sentence, at their edges. */
public final class EdgesOfReadingsTest {

    private static final Check check = new Check("edges of readings");
    private static final Ranges ranges = new Ranges(check);
    private static final Supplier<Ringtrack> SQUARE = () -> Rings.disc(2, 0);
    private static final Supplier<Ringtrack> NO_DISC = () -> Rings.ofReflected(2);

    public static void main(String[] args) {
        newDisc();
        eachTurningOnce();
        believedWithinTheLimit();
        believedWithAnEstimate();
        trustedWithinTheTolerance();
        toldBetweenTheHeads();
        toldModuloTheTurn();
        degradedWithOneHead();
        stoppedOtherwise();
        doubts();
        roundsOverTheEnd();
        eightWays();
        startsWithoutTheLimit();
        startsWithinTheTolerance();
        startsWithRoundsOfGears();
        startEndsAStop();
        startThatCannotChangesNothing();
        powerOff();
        powerOnThatCannotStart();
        setLimit();
        setTolerance();
        state();
        told();
        doubt();
        holds();
        toldRounds();
        stops();
        start();
        power();
        speed();
        wayAt();
        check.end();
    }

    private static void is(String when, Ringtrack x, char state, int told, int rounds) {
        check.same("state() " + when, x.state(), state);
        check.same("told() " + when, x.told(), told);
        check.same("toldRounds() " + when, x.toldRounds(), rounds);
    }

    private static void ways(String when, Ringtrack x, int... due) {
        for (int k = 0; k < due.length; k++) {
            check.same("wayAt(" + k + ") " + when, x.wayAt(k), due[k]);
        }
        check.missing("wayAt(" + due.length + ") " + when, () -> x.wayAt(due.length));
    }

    /** Six words without 2 and 5: with its middle track turned, the word 0 is none, as is the word 7. */
    private static Ringtrack six(int off) {
        return Rings.typedDisc(off, Rings.SIX);
    }

    /** Neither head has an estimate at the angle 0. */
    private static Ringtrack blind() {
        Ringtrack x = six(0);
        x.stick(0, 1, 1);
        x.stick(1, 1, 0);
        return x;
    }

    // ---- Terms: Readings

    private static void newDisc() {
        check.says("A new disc is 't' trusted, told as 0, with power.");
        Ringtrack x = SQUARE.get();
        is("of a new disc", x, 't', 0, 0);
        ways("of a new disc", x);
        check.same("start() of a new disc", x.start(), true);
        check.same("power(false) of a new disc", x.power(false), true);
        Ringtrack y = blind();
        y.turn(0);
        is("of none", y, 's', 0, 0);
        y.power(false);
        y.setDisc(0, 0);
        is("of another new disc", y, 't', 0, 0);
        check.same("power(true) of another new disc", y.power(true), true);
    }

    private static void eachTurningOnce() {
        check.says("With power each turning is read once, at its end, unless the state is 's' stopped.");
        Ringtrack x = SQUARE.get();
        x.turn(0);
        ways("behind a turning by 0", x, 8);
        x.turn(500);
        is("behind a turning by 7 turns and 52 steps", x, 't', 56, -1);
        ways("behind a turning by 7 turns and 52 steps", x, 8, -16);
        x.turn(-0);
        ways("behind three turnings", x, 8, -16, 0);
        x.power(false);
        x.turn(16);
        ways("behind a turning without power", x, 8, -16, 0);
        x.power(true);
        x.setLimit(8);
        x.turn(16);
        check.same("state()", x.state(), 's');
        x.setLimit(400);
        x.turn(0);
        is("behind a turning when stopped", x, 's', 8, 0);
        check.same("stops()", x.stops(), 1);
        ways("behind a turning when stopped", x);
        Ringtrack y = SQUARE.get();
        y.stick(0, 0, 1);
        y.addSpeck(1, 0, 0);
        y.setLimit(8);
        y.clean();
        is("when nothing was turned", y, 't', 0, 0);
    }

    private static final String BELIEVED = "A head is believed if it has an estimate, the way to which from what is told"
            + " is not longer than the limit, 40 steps at first.";

    private static void limited(String when, Ringtrack x, int steps, char state, int told, int rounds) {
        x.turn(steps);
        is(when + " behind turn(" + steps + ")", x, state, told, rounds);
    }

    private static Ringtrack limitOf(int limit) {
        Ringtrack x = Rings.disc(6, 0);
        x.turn(0);
        x.setLimit(limit);
        return x;
    }

    private static void believedWithinTheLimit() {
        check.says(BELIEVED);
        limited("by 40 from 0", Rings.disc(4, 0), 32, 't', 40, 0);
        limited("by 56 from 0", Rings.disc(4, 0), 48, 's', 0, 0);
        limited("by 40 back from 0", Rings.disc(4, 0), -33, 't', 216, -1);
        limited("by 56 back from 0", Rings.disc(4, 0), -49, 's', 0, 0);
        limited("by 8 at the limit 8", Rings.disc(4, 0), 0, 't', 8, 0);
        limited("by 16 at the limit 8", limitOf(8), 16, 's', 8, 0);
        limited("by 16 at the limit 15", limitOf(15), 16, 's', 8, 0);
        limited("by 16 at the limit 16", limitOf(16), 16, 't', 24, 0);
        limited("by 16 back at the limit 15", limitOf(15), -16, 's', 8, 0);
        limited("by 16 back at the limit 16", limitOf(16), -16, 't', 1016, -1);
        limited("by 400 at the limit 399", limitOf(399), 400, 's', 8, 0);
        limited("by 400 at the limit 400", limitOf(400), 400, 't', 408, 0);
        limited("by 400 back at the limit 400", limitOf(400), -400, 't', 632, -1);
        limited("by 416 at the limit 400", limitOf(400), 416, 's', 8, 0);
        Ringtrack half = SQUARE.get();
        half.setLimit(31);
        half.turn(0);
        limited("by a half turn at the limit 31", half, 32, 's', 8, 0);
        Ringtrack other = SQUARE.get();
        other.setLimit(32);
        other.turn(0);
        limited("by a half turn at the limit 32", other, 32, 't', 40, -1);
    }

    private static void believedWithAnEstimate() {
        check.says(BELIEVED);
        Ringtrack x = six(0);
        x.stick(0, 1, 1);
        limited("with the head 1 alone", x, 0, 'd', 8, 0);
        Ringtrack y = six(0);
        y.stick(1, 1, 0);
        limited("with the head 0 alone", y, 0, 'd', 8, 0);
        limited("with no head", blind(), 0, 's', 0, 0);
        Ringtrack z = six(0);
        z.stick(0, 1, 1);
        z.setLimit(8);
        limited("with the head 1 alone, too far away", z, 95, 'd', 88, -1);
        z.stick(1, 0, 1);
        limited("with the head 0 alone, too far away", z, -63, 's', 88, -1);
    }

    private static final String TRUSTED = "If both are, and the way from the estimate of the head 0 to that of the head 1"
            + " is not longer than the tolerance, 48 at first, the state is 't', and the angle is told as that of the"
            + " head 0 and half of that way, cut.";

    /** Off by 40, at the angle 16 k the heads are 80, or less, apart: 16 k times 40 divided by 64, twice. */
    private static Ringtrack apart(int tolerance) {
        Ringtrack x = Rings.disc(4, 40);
        x.setLimit(400);
        x.setTolerance(tolerance);
        return x;
    }

    private static void trustedWithinTheTolerance() {
        check.says(TRUSTED);
        Ringtrack x = Rings.disc(4, 40);
        x.setLimit(400);
        limited("with the heads 48 apart, at first", x, 32, 't', 32, 0);
        limited("with the heads 64 apart, at first", x, 8, 's', 32, 0);
        limited("with the heads 48 apart, at 47", apart(47), 32, 's', 0, 0);
        limited("with the heads 64 apart, at 64", apart(64), 40, 't', 40, 0);
        limited("with the heads 64 apart, at 63", apart(63), 40, 's', 0, 0);
        limited("with the heads 80 apart, at 80", apart(80), 64, 't', 64, 0);
        limited("with the heads 80 apart, at 79", apart(79), 64, 's', 0, 0);
        limited("with the heads 48 apart the other way, at 48", apart(48), -32, 't', 224, -1);
        limited("with the heads 48 apart the other way, at 47", apart(47), -32, 's', 0, 0);
        Ringtrack near = six(2);
        near.setTolerance(16);
        limited("with the heads 16 apart, at 16", near, 31, 't', 32, 0);
        far(176, 't');
        far(175, 's');
        far(200, 't');
    }

    /** With the track 3 of the head 1 stuck as 1, at the place 2 it sees the place 45 for 34: 176 on. */
    private static void far(int tolerance, char state) {
        Ringtrack x = Rings.disc(6, 0);
        x.stick(1, 3, 1);
        x.setLimit(400);
        x.setTolerance(tolerance);
        x.turn(32);
        check.same("estimate(0)", x.estimate(0), 40);
        check.same("estimate(1)", x.estimate(1), 216);
        is("with the heads 176 apart, at " + tolerance, x, state, state == 't' ? 128 : 0, 0);
    }

    private static void toldBetweenTheHeads() {
        check.says(TRUSTED);
        limited("with the head 1 behind", apart(48), 32, 't', 32, 0);
        limited("with the head 1 before", apart(48), -32, 't', 224, -1);
        Ringtrack x = Rings.disc(4, 20);
        x.turn(30);
        check.same("estimate(0)", x.estimate(0), 40);
        check.same("estimate(1)", x.estimate(1), 24);
        is("between 40 and 24", x, 't', 32, 0);
    }

    /** The estimates are 8 and 248, or 248 and 8, of a turn of 256: what is told is 0 each time. */
    private static void toldModuloTheTurn() {
        check.says(TRUSTED);
        Ringtrack x = Rings.disc(4, 0);
        x.stick(1, 3, 0);
        x.turn(0);
        check.same("estimate(0)", x.estimate(0), 8);
        check.same("estimate(1)", x.estimate(1), 248);
        is("between 8 and 248", x, 't', 0, 0);
        Ringtrack y = Rings.disc(4, 0);
        y.stick(1, 3, 1);
        y.turn(-16);
        check.same("estimate(0)", y.estimate(0), 248);
        check.same("estimate(1)", y.estimate(1), 8);
        is("between 248 and 8", y, 't', 0, 0);
        Ringtrack z = SQUARE.get();
        z.stick(0, 0, 1);
        z.stick(0, 1, 1);
        z.turn(0);
        check.same("estimate(0)", z.estimate(0), 40);
        check.same("estimate(1)", z.estimate(1), 8);
        is("a half turn back from 40", z, 't', 24, 0);
    }

    private static void degradedWithOneHead() {
        check.says("If just one is believed, it is 'd' degraded, and the angle is told as its estimate.");
        Ringtrack x = six(0);
        x.stick(0, 1, 1);
        limited("of the head 1 alone", x, 0, 'd', 8, 0);
        x.stick(0, 1, -1);
        x.stick(0, 0, 1);
        limited("of the head 1 alone, back", x, -1, 'd', 88, -1);
        ways("of one head", x, 8, -16);
        check.same("stops()", x.stops(), 0);
        Ringtrack y = six(0);
        y.stick(1, 1, 0);
        limited("of the head 0 alone", y, 0, 'd', 8, 0);
        y.stick(1, 1, -1);
        limited("of both again", y, 0, 't', 8, 0);
        limited("of the head 1 within the limit", Rings.disc(4, 40), 32, 'd', 8, 0);
        limited("of the head 0 within the limit", Rings.disc(4, 40), -96, 's', 0, 0);
        Ringtrack z = Rings.disc(4, 20);
        z.turn(30);
        z.turn(40);
        check.same("estimate(0)", z.estimate(0), 88);
        check.same("estimate(1)", z.estimate(1), 56);
        is("with 88 and 56, from 32", z, 'd', 56, 0);
    }

    private static void stoppedOtherwise() {
        check.says("Otherwise it is 's', what is told stays, and a stop is counted.");
        Ringtrack x = six(0);
        x.turn(16);
        x.turn(-16);
        x.stick(0, 1, 1);
        x.stick(1, 1, 0);
        limited("of no estimates", x, 0, 's', 8, 0);
        check.same("stops()", x.stops(), 1);
        ways("of no estimates", x, 24, -16);
        Ringtrack y = Rings.disc(4, 0);
        limited("of both beyond the limit", y, 100, 's', 0, 0);
        check.same("stops()", y.stops(), 1);
        limited("when it is stopped", y, -100, 's', 0, 0);
        check.same("stops(): one stop is counted once", y.stops(), 1);
        Ringtrack z = apart(47);
        limited("of both beyond the tolerance", z, 32, 's', 0, 0);
        check.same("stops()", z.stops(), 1);
        Ringtrack one = six(0);
        one.stick(0, 1, 1);
        one.setLimit(8);
        limited("of one, beyond the limit", one, 16, 's', 0, 0);
        check.same("stops()", one.stops(), 1);
    }

    private static void doubts() {
        check.says("The doubt is 16 if trusted, 16 and what the disc is off if degraded, 8 N if stopped.");
        int[][] due = {{0, 16}, {1, 17}, {40, 56}};
        for (int[] one : due) {
            Ringtrack x = six(one[0]);
            check.same("doubt() trusted, off by " + one[0], x.doubt(), 16);
            x.stick(0, 1, 1);
            x.turn(0);
            check.same("doubt() degraded, off by " + one[0], x.doubt(), one[1]);
            x.stick(1, 1, 0);
            x.turn(0);
            check.same("doubt() stopped, off by " + one[0], x.doubt(), 48);
        }
        Ringtrack square = SQUARE.get();
        square.setLimit(8);
        square.turn(16);
        check.same("doubt() of a square, stopped", square.doubt(), 32);
        Ringtrack large = Rings.disc(6, 40);
        large.turn(500);
        check.same("doubt() of 64 words, stopped", large.doubt(), 512);
    }

    private static void roundsOverTheEnd() {
        check.says("As what is told goes forth over the end of the turn, told rounds are 1 more, as it goes back over"
                + " that, 1 less.");
        Ringtrack x = SQUARE.get();
        limited("to 8", x, 0, 't', 8, 0);
        limited("back over the end", x, -1, 't', 56, -1);
        limited("back once more, by a half turn", x, -32, 't', 24, -1);
        limited("a half turn on, which is back", x, 32, 't', 56, -2);
        limited("forth over the end", x, 1, 't', 8, -1);
        limited("a turn on: told as before", x, 64, 't', 8, -1);
        limited("forth, not over the end", x, 16, 't', 24, -1);
        check.same("trueRounds()", x.trueRounds(), 1);
        Ringtrack zero = Rings.disc(4, 0);
        zero.stick(1, 3, 0);
        limited("to the end from 0", zero, 0, 't', 0, 0);
        zero.stick(1, 3, -1);
        limited("back over the end from 0", zero, -1, 't', 248, -1);
        zero.stick(1, 3, 1);
        limited("forth to the end", zero, 0, 't', 0, 0);
        zero.stick(1, 3, -1);
        limited("back from the end", zero, 0, 't', 248, -1);
        limited("forth over the end", zero, 1, 't', 8, 0);
        zero.stick(1, 3, 0);
        limited("back to the end", zero, 0, 't', 0, 0);
        Ringtrack one = six(0);
        one.stick(0, 1, 1);
        limited("of both, back over the end", one, -1, 't', 80, -1);
        limited("of the head 1, forth over the end", one, 1, 'd', 8, 0);
    }

    private static void eightWays() {
        check.says("The last 8 ways of what is told are kept.");
        Ringtrack x = Rings.disc(6, 0);
        x.setLimit(400);
        x.turn(0);
        ways("of one turning", x, 8);
        for (int k = 1; k <= 6; k++) {
            x.turn(16 * k);
        }
        ways("of 7 turnings", x, 8, 16, 32, 48, 64, 80, 96);
        x.turn(112);
        ways("of 8 turnings", x, 8, 16, 32, 48, 64, 80, 96, 112);
        x.turn(-128);
        ways("of 9 turnings", x, 16, 32, 48, 64, 80, 96, 112, -128);
        x.turn(0);
        ways("of 10 turnings", x, 32, 48, 64, 80, 96, 112, -128, 0);
        for (int k = 1; k <= 8; k++) {
            x.turn(-16);
        }
        ways("of 18 turnings", x, -16, -16, -16, -16, -16, -16, -16, -16);
    }

    // ---- Terms: Starting

    private static final String START = "To start is to read without the limit: if both heads have estimates, and the way"
            + " from the first one's to the other one's is not longer than the tolerance, the angle is told as above, the"
            + " state is 't', and no ways are kept; if gears tell rounds, told rounds are these.";

    private static void startsWithoutTheLimit() {
        check.says(START);
        Ringtrack x = Rings.disc(6, 0);
        x.setLimit(8);
        x.turn(0);
        x.turn(500);
        is("when it stopped", x, 's', 8, 0);
        check.same("start()", x.start(), true);
        is("when it started", x, 't', 504, 0);
        ways("when it started", x);
        x.turn(500);
        check.same("start() from 504", x.start(), true);
        is("when it started from 504", x, 't', 1000, 0);
        x.turn(500);
        check.same("start() over the end", x.start(), true);
        is("when it started over the end", x, 't', 472, 1);
        x.turn(-500);
        check.same("start() back over the end", x.start(), true);
        is("when it started back over the end", x, 't', 1000, 0);
        Ringtrack y = six(0);
        y.stick(0, 1, 1);
        y.turn(0);
        check.same("start() of the head 1 alone", y.start(), false);
        y.stick(0, 1, -1);
        y.stick(1, 1, 0);
        check.same("start() of the head 0 alone", y.start(), false);
        check.same("start() of no head", blind().start(), false);
    }

    private static void startsWithinTheTolerance() {
        check.says(START);
        for (int steps : new int[] {40, -40}) {
            Ringtrack x = Rings.disc(4, 40);
            x.setTolerance(63);
            x.turn(steps);
            check.same("start() with the heads 64 apart, at 63", x.start(), false);
            x.setTolerance(64);
            check.same("start() with the heads 64 apart, at 64", x.start(), true);
            is("between the heads", x, 't', steps < 0 ? 216 : 40, steps < 0 ? -1 : 0);
        }
        Ringtrack end = Rings.disc(4, 0);
        end.stick(1, 3, 0);
        check.same("start() between 8 and 248", end.start(), true);
        check.same("told()", end.told(), 0);
    }

    private static void startsWithRoundsOfGears() {
        check.says(START);
        Ringtrack x = SQUARE.get();
        x.turn(-1);
        is("before the start", x, 't', 56, -1);
        x.start();
        is("without gears", x, 't', 56, -1);
        x.addGear(3);
        x.addGear(5);
        x.start();
        is("with gears", x, 't', 56, 14);
        x.turn(1);
        is("behind a turning", x, 't', 8, 15);
        x.start();
        is("with gears that tell 0", x, 't', 8, 0);
        x.addGear(6);
        x.slip(2, 1);
        x.turn(-1);
        x.turn(1);
        x.turn(32);
        x.turn(32);
        is("before gears that tell none", x, 't', 8, -1);
        check.missing("recover()", () -> x.recover());
        x.start();
        is("with gears that tell none", x, 't', 8, -1);
    }

    private static final String ENDS_A_STOP = "It ends a stop, and can be done with power alone; if it cannot, nothing"
            + " changes.";

    private static void startEndsAStop() {
        check.says(ENDS_A_STOP);
        Ringtrack x = Rings.disc(4, 0);
        x.turn(100);
        check.same("state()", x.state(), 's');
        check.same("start()", x.start(), true);
        is("when it started", x, 't', 104, 0);
        x.turn(16);
        is("behind a turning", x, 't', 120, 0);
        ways("behind a turning", x, 16);
        check.same("stops()", x.stops(), 1);
        Ringtrack one = six(0);
        one.stick(0, 1, 1);
        one.turn(0);
        one.stick(0, 1, -1);
        check.same("start() when degraded", one.start(), true);
        is("when it started from 'd'", one, 't', 8, 0);
        x.power(false);
        check.unsupported("start() without power", () -> x.start());
        x.power(true);
        check.same("start() with power again", x.start(), true);
    }

    private static void startThatCannotChangesNothing() {
        check.says(ENDS_A_STOP);
        Ringtrack x = six(0);
        x.addGear(5);
        x.turn(16);
        x.turn(-16);
        x.slip(0, 3);
        x.stick(0, 1, 1);
        check.same("start() when trusted", x.start(), false);
        is("when trusted", x, 't', 8, 0);
        ways("when trusted", x, 24, -16);
        x.turn(0);
        check.same("start() when degraded", x.start(), false);
        is("when degraded", x, 'd', 8, 0);
        ways("when degraded", x, 24, -16, 0);
        check.same("stops()", x.stops(), 0);
        x.stick(1, 1, 0);
        x.turn(0);
        check.same("start() when stopped", x.start(), false);
        is("when stopped", x, 's', 8, 0);
        ways("when stopped", x, 24, -16, 0);
        check.same("stops()", x.stops(), 1);
    }

    private static final String OFF = "With the power off nothing is read; as it comes on from being off, it starts, if it"
            + " can; otherwise it is stopped, which is counted.";

    private static void powerOff() {
        check.says(OFF);
        Ringtrack x = Rings.disc(4, 0);
        x.turn(16);
        x.power(false);
        is("when it goes off", x, 't', 24, 0);
        x.turn(16);
        x.turn(100);
        is("without power", x, 't', 24, 0);
        ways("without power", x, 24);
        check.same("stops() without power", x.stops(), 0);
        x.power(false);
        is("when it stays off", x, 't', 24, 0);
        x.power(true);
        is("when it comes on", x, 't', 136, 0);
        ways("when it comes on", x);
        x.turn(16);
        x.power(true);
        ways("when it stays on", x, 16);
        x.turn(100);
        is("when it stopped", x, 's', 152, 0);
        x.power(true);
        is("when it stays on, stopped", x, 's', 152, 0);
        x.power(false);
        is("when it goes off, stopped", x, 's', 152, 0);
        x.power(true);
        is("when it comes on from a stop", x, 't', 248, 0);
        check.same("stops()", x.stops(), 1);
    }

    private static void powerOnThatCannotStart() {
        check.says(OFF);
        Ringtrack x = six(0);
        x.turn(0);
        x.stick(0, 1, 1);
        x.power(false);
        x.turn(500);
        x.turn(-500);
        check.same("stops() without power", x.stops(), 0);
        x.power(true);
        is("of the head 1 alone", x, 's', 8, 0);
        check.same("stops()", x.stops(), 1);
        ways("of the head 1 alone", x, 8);
        x.power(true);
        check.same("stops(): it stays on", x.stops(), 1);
        x.power(false);
        x.power(true);
        check.same("stops(): it comes on once more", x.stops(), 2);
        Ringtrack y = Rings.disc(4, 40);
        y.power(false);
        y.turn(64);
        y.power(true);
        is("of heads too far apart", y, 's', 0, 0);
        check.same("stops()", y.stops(), 1);
    }

    // ---- promises 22 to 33

    private static void setLimit() {
        check.says(22, "- `steps`: 8 to 400");
        ranges.within("setLimit", Ringtrack::new, 8, 400, Ringtrack::setLimit, n -> 40);
        ranges.within("setLimit twice", Ringtrack::new, 8, 400, (x, n) -> {
            x.setLimit(n);
            return x.setLimit(40);
        }, n -> n);
        check.says(22, "Returns the one before.");
        Ringtrack x = SQUARE.get();
        check.same("setLimit(9) with a disc", x.setLimit(9), 40);
        x.setDisc(0, 0);
        check.same("setLimit(10) of another disc", x.setLimit(10), 9);
        check.says(22, "Throws `IllegalArgumentException` if a number is out of range");
        ranges.outOfRange("setLimit", Ringtrack::new, 8, 400, Ringtrack::setLimit);
        ranges.outOfRange("setLimit with a disc", SQUARE, 8, 400, Ringtrack::setLimit);
    }

    private static void setTolerance() {
        check.says(23, "- `steps`: 16 to 200");
        ranges.within("setTolerance", Ringtrack::new, 16, 200, Ringtrack::setTolerance, n -> 48);
        ranges.within("setTolerance twice", Ringtrack::new, 16, 200, (x, n) -> {
            x.setTolerance(n);
            return x.setTolerance(40);
        }, n -> n);
        check.says(23, "Returns the one before.");
        Ringtrack x = SQUARE.get();
        check.same("setTolerance(19) with a disc", x.setTolerance(19), 48);
        x.setDisc(0, 0);
        check.same("setTolerance(20) of another disc", x.setTolerance(20), 19);
        check.same("setLimit(40): the limit is another one", x.setLimit(40), 40);
        check.says(23, "Throws `IllegalArgumentException` if a number is out of range");
        ranges.outOfRange("setTolerance", Ringtrack::new, 16, 200, Ringtrack::setTolerance);
        ranges.outOfRange("setTolerance with a disc", SQUARE, 16, 200, Ringtrack::setTolerance);
    }

    private static void state() {
        check.says(24, "Returns 't', 'd' or 's', also with the power off.");
        Ringtrack x = six(0);
        check.same("state() trusted", x.state(), 't');
        x.power(false);
        check.same("state() trusted, without power", x.state(), 't');
        x.power(true);
        x.stick(0, 1, 1);
        x.turn(0);
        check.same("state() degraded", x.state(), 'd');
        x.power(false);
        check.same("state() degraded, without power", x.state(), 'd');
        x.power(true);
        check.same("state() stopped", x.state(), 's');
        x.power(false);
        check.same("state() stopped, without power", x.state(), 's');
        check.says(24, "Throws `UnsupportedOperationException` if there is no disc");
        check.unsupported("state()", () -> NO_DISC.get().state());
    }

    private static void told() {
        check.says(25, "Returns the steps.");
        Ringtrack x = Rings.disc(6, 0);
        check.same("told() of a new disc", x.told(), 0);
        x.turn(-1);
        check.same("told() of the last place", x.told(), 1016);
        x.power(false);
        x.turn(500);
        check.same("told() without power", x.told(), 1016);
        check.says(25, "Throws `UnsupportedOperationException` if there is no disc");
        check.unsupported("told()", () -> NO_DISC.get().told());
    }

    private static void doubt() {
        check.says(26, "Returns the steps.");
        Ringtrack x = Rings.disc(2, 40);
        check.same("doubt()", x.doubt(), 16);
        x.power(false);
        x.turn(30);
        check.same("doubt() without power", x.doubt(), 16);
        check.says(26, "Throws `UnsupportedOperationException` if there is no disc");
        check.unsupported("doubt()", () -> NO_DISC.get().doubt());
    }

    /** What is told is 0, and the power is off, so that the angle alone changes. */
    private static void holdsAt(Ringtrack x, int angle, boolean due) {
        x.turn(angle - x.angle());
        check.same("holds() in '" + x.state() + "' at " + angle, x.holds(), due);
    }

    private static void holds() {
        check.says(27, "Tells whether the way from the true angle to what is told is not longer than the doubt.");
        check.says(27, "Returns true if so.");
        Ringtrack x = Rings.disc(4, 40);
        x.power(false);
        holdsAt(x, 0, true);
        holdsAt(x, 16, true);
        holdsAt(x, 17, false);
        holdsAt(x, 128, false);
        holdsAt(x, 239, false);
        holdsAt(x, 240, true);
        Ringtrack y = six(10);
        y.stick(0, 1, 1);
        y.turn(0);
        y.power(false);
        check.same("told()", y.told(), 8);
        holdsAt(y, 34, true);
        holdsAt(y, 35, false);
        holdsAt(y, 78, true);
        holdsAt(y, 77, false);
        Ringtrack z = Rings.disc(4, 0);
        z.turn(128);
        z.power(false);
        holdsAt(z, 128, true);
        holdsAt(z, 127, true);
        holdsAt(z, 129, true);
        check.says(27, "Throws `UnsupportedOperationException` if there is no disc");
        check.unsupported("holds()", () -> NO_DISC.get().holds());
    }

    private static void toldRounds() {
        check.says(28, "Returns their number, perhaps below 0.");
        Ringtrack x = SQUARE.get();
        check.same("toldRounds() of a new disc", x.toldRounds(), 0);
        x.turn(-16);
        check.same("toldRounds()", x.toldRounds(), -1);
        x.power(false);
        x.turn(-500);
        check.same("toldRounds() without power", x.toldRounds(), -1);
        check.says(28, "Throws `UnsupportedOperationException` if there is no disc");
        check.unsupported("toldRounds()", () -> NO_DISC.get().toldRounds());
    }

    private static void stops() {
        check.says(29, "Returns how many stops there were, of all discs.");
        check.says(29, "Returns their number.");
        check.same("stops() of a new object", new Ringtrack().stops(), 0);
        check.same("stops() without a disc", NO_DISC.get().stops(), 0);
        Ringtrack x = Rings.disc(4, 0);
        x.turn(100);
        check.same("stops() of one disc", x.stops(), 1);
        x.setDisc(0, 0);
        check.same("stops() of a new disc", x.stops(), 1);
        x.turn(100);
        check.same("stops() of both discs", x.stops(), 2);
        x.escapes();
        x.start();
        check.same("stops() behind a start", x.stops(), 2);
    }

    private static void start() {
        check.says(30, "Returns whether it could.");
        check.same("start()", SQUARE.get().start(), true);
        check.same("start() of no head", blind().start(), false);
        check.says(30, "Throws `UnsupportedOperationException` if there is no disc, or no power");
        check.unsupported("start() without a disc", () -> NO_DISC.get().start());
        Ringtrack x = SQUARE.get();
        x.power(false);
        check.unsupported("start() without power", () -> x.start());
        Ringtrack y = blind();
        y.power(false);
        check.unsupported("start() of no head, without power", () -> y.start());
    }

    private static void power() {
        check.says(31, "- `isOn`: whether the power is on");
        check.says(31, "Returns whether it was on.");
        Ringtrack x = SQUARE.get();
        check.same("power(true) when it is on", x.power(true), true);
        check.same("power(false) when it is on", x.power(false), true);
        check.same("power(false) when it is off", x.power(false), false);
        check.same("power(true) when it is off", x.power(true), false);
        check.same("power(true) when it is on again", x.power(true), true);
        check.says(31, "Throws `UnsupportedOperationException` if there is no disc");
        check.unsupported("power(true)", () -> NO_DISC.get().power(true));
        check.unsupported("power(false)", () -> NO_DISC.get().power(false));
    }

    private static void speed() {
        check.says(32, "Returns the sum divided by their number, both converted to double.");
        Ringtrack x = Rings.disc(6, 0);
        x.setLimit(400);
        x.turn(0);
        check.same("speed() of 8", x.speed(), 8.0);
        x.turn(-1);
        check.same("speed() of 8 and -16", x.speed(), -4.0);
        x.turn(16);
        check.same("speed() of 8, -16 and 16", x.speed(), 8.0 / 3.0);
        x.turn(-16);
        x.turn(-16);
        x.turn(-16);
        x.turn(-16);
        check.same("speed() of seven", x.speed(), -56.0 / 7.0);
        x.turn(-48);
        check.same("speed() of eight", x.speed(), -104.0 / 8.0);
        x.turn(32);
        check.same("speed() of the last eight of nine", x.speed(), -80.0 / 8.0);
        x.power(false);
        check.same("speed() without power", x.speed(), -10.0);
        check.says(32, "Throws `UnsupportedOperationException` if there is no disc");
        check.unsupported("speed()", () -> NO_DISC.get().speed());
        check.says(32, "Throws `NoSuchElementException` if none are kept");
        check.missing("speed() of a new disc", () -> SQUARE.get().speed());
        x.power(true);
        check.missing("speed() behind a start", () -> x.speed());
    }

    private static Ringtrack withWays(int count) {
        Ringtrack x = SQUARE.get();
        for (int k = 0; k < count; k++) {
            x.turn(16);
        }
        return x;
    }

    private static void wayAt() {
        check.says(33, "- `index`: the index, from 0");
        ranges.within("wayAt of two", () -> withWays(2), 0, 1, Ringtrack::wayAt, n -> n == 0 ? 24 : 16);
        ranges.within("wayAt of 9", () -> withWays(9), 0, 7, Ringtrack::wayAt, n -> 16);
        check.says(33, "Returns the steps, the oldest one first.");
        ways("of three", withWays(3), 24, 16, 16);
        check.says(33, "Throws `UnsupportedOperationException` if there is no disc");
        check.unsupported("wayAt(0)", () -> NO_DISC.get().wayAt(0));
        check.unsupported("wayAt(-1)", () -> NO_DISC.get().wayAt(-1));
        check.says(33, "Throws `NoSuchElementException` if there is no such way");
        for (int count : new int[] {0, 1, 2, 8, 9}) {
            ranges.beyond("wayAt of " + count, () -> withWays(count), 0, Math.min(count, 8) - 1, Ringtrack::wayAt,
                    java.util.NoSuchElementException.class);
        }
    }
}
