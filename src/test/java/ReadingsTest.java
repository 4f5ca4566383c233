/** Promises 21 to 33: what turnings are read as, starting, power, and the ways that are kept. */
public final class ReadingsTest {

    private static final Check check = new Check("readings");

    public static void main(String[] args) {
        withoutDisc();
        settings();
        newDisc();
        trusted();
        limitIsAWayEitherSide();
        toleranceIsAWayEitherSide();
        degraded();
        degradedByTheLimit();
        stopped();
        holds();
        toldRounds();
        start();
        startCannot();
        startCountsRounds();
        power();
        powerThatStops();
        ways();
        speed();
        check.end();
    }

    private static void withoutDisc() {
        Ringtrack x = Rings.ofReflected(2);
        check.unsupported("state()", () -> x.state());
        check.unsupported("told()", () -> x.told());
        check.unsupported("doubt()", () -> x.doubt());
        check.unsupported("holds()", () -> x.holds());
        check.unsupported("toldRounds()", () -> x.toldRounds());
        check.unsupported("start()", () -> x.start());
        check.unsupported("power(true)", () -> x.power(true));
        check.unsupported("power(false)", () -> x.power(false));
        check.unsupported("speed()", () -> x.speed());
        check.unsupported("wayAt(0)", () -> x.wayAt(0));
        check.same("stops()", x.stops(), 0);
    }

    private static void settings() {
        Ringtrack x = new Ringtrack();
        check.bad("setLimit(7)", () -> x.setLimit(7));
        check.bad("setLimit(401)", () -> x.setLimit(401));
        check.same("setLimit(8)", x.setLimit(8), 40);
        check.same("setLimit(400)", x.setLimit(400), 8);
        check.same("setLimit(9)", x.setLimit(9), 400);
        check.bad("setTolerance(15)", () -> x.setTolerance(15));
        check.bad("setTolerance(201)", () -> x.setTolerance(201));
        check.same("setTolerance(16)", x.setTolerance(16), 48);
        check.same("setTolerance(200)", x.setTolerance(200), 16);
        check.same("setTolerance(17)", x.setTolerance(17), 200);
    }

    private static void is(String when, Ringtrack x, char state, int told, int rounds, int doubt) {
        check.same("state() " + when, x.state(), state);
        check.same("told() " + when, x.told(), told);
        check.same("toldRounds() " + when, x.toldRounds(), rounds);
        check.same("doubt() " + when, x.doubt(), doubt);
    }

    private static void newDisc() {
        Ringtrack x = Rings.disc(4, 30);
        is("of a new disc", x, 't', 0, 0, 16);
        check.same("holds()", x.holds(), true);
        check.same("stops()", x.stops(), 0);
    }

    private static void trusted() {
        Ringtrack x = Rings.disc(4, 20);
        x.turn(30);
        is("at 30", x, 't', 32, 0, 16);
        x.turn(40);
        is("at 70, with one head too far away", x, 'd', 56, 0, 36);
        Ringtrack y = Rings.disc(4, 0);
        y.turn(0);
        is("behind a turning by 0", y, 't', 8, 0, 16);
        y.turn(15);
        is("at 15", y, 't', 8, 0, 16);
        y.turn(1);
        is("at 16", y, 't', 24, 0, 16);
        check.same("stops()", y.stops(), 0);
    }

    private static void limit(int limit, int steps, char state, int told, int rounds) {
        Ringtrack x = Rings.disc(4, 0);
        x.setLimit(limit);
        x.turn(steps);
        String when = "with the limit " + limit + " at " + steps;
        is(when, x, state, told, rounds, state == 's' ? 128 : 16);
        check.same("stops() " + when, x.stops(), state == 's' ? 1 : 0);
    }

    private static void limitIsAWayEitherSide() {
        limit(40, 32, 't', 40, 0);
        limit(39, 32, 's', 0, 0);
        limit(40, 48, 's', 0, 0);
        limit(40, -33, 't', 216, -1);
        limit(39, -33, 's', 0, 0);
        limit(8, 15, 't', 8, 0);
        limit(8, -16, 't', 248, -1);
        limit(8, 16, 's', 0, 0);
        limit(8, -17, 's', 0, 0);
        limit(120, 127, 't', 120, 0);
        limit(120, 128, 't', 136, -1);
        limit(119, 128, 's', 0, 0);
    }

    private static void tolerance(int tolerance, int angle, char state, int told, int rounds) {
        Ringtrack x = Rings.disc(4, 40);
        x.setLimit(400);
        x.setTolerance(tolerance);
        x.turn(angle);
        is("with the tolerance " + tolerance + " at " + angle, x, state, told, rounds, state == 's' ? 128 : 16);
    }

    private static void toleranceIsAWayEitherSide() {
        tolerance(48, 32, 't', 32, 0);
        tolerance(47, 32, 's', 0, 0);
        tolerance(48, 40, 's', 0, 0);
        tolerance(64, 40, 't', 40, 0);
        tolerance(48, 224, 't', 224, -1);
        tolerance(47, 224, 's', 0, 0);
        tolerance(80, 64, 't', 64, 0);
        tolerance(79, 64, 's', 0, 0);
    }

    private static void degraded() {
        Ringtrack x = Rings.typedDisc(7, Rings.SIX);
        x.stick(0, 1, 1);
        x.turn(0);
        is("of the head 1 alone", x, 'd', 8, 0, 23);
        x.stick(0, 1, -1);
        x.stick(1, 1, 0);
        x.turn(16);
        is("of the head 0 alone", x, 'd', 24, 0, 23);
        check.same("wayAt(1)", x.wayAt(1), 16);
        x.stick(1, 1, -1);
        x.turn(0);
        is("of both again", x, 't', 16, 0, 16);
        x.stick(0, 1, 1);
        x.stick(1, 1, 0);
        x.turn(-16);
        is("of none", x, 's', 16, 0, 48);
        check.same("stops()", x.stops(), 1);
        check.missing("wayAt(3): a stop tells no way", () -> x.wayAt(3));
        check.same("wayAt(2)", x.wayAt(2), -8);
    }

    private static void degradedByTheLimit() {
        Ringtrack x = Rings.disc(4, 40);
        x.turn(32);
        is("with the head 0 too far away", x, 'd', 8, 0, 56);
        Ringtrack y = Rings.disc(4, 40);
        y.turn(-32);
        is("with the head 0 too far away, back", y, 'd', 248, -1, 56);
        Ringtrack z = Rings.disc(4, 40);
        z.turn(160);
        z.setTolerance(64);
        z.start();
        is("between the heads", z, 't', 160, -1, 16);
        z.turn(20);
        is("with the head 0 near, the head 1 too far away", z, 'd', 152, -1, 56);
    }

    private static void stopped() {
        Ringtrack x = Rings.disc(4, 0);
        x.turn(16);
        x.turn(64);
        is("when it stopped", x, 's', 24, 0, 128);
        x.turn(-64);
        is("on turning back", x, 's', 24, 0, 128);
        x.turn(100);
        check.same("stops() on turning on", x.stops(), 1);
        check.same("start()", x.start(), true);
        is("when it started", x, 't', 120, 0, 16);
        x.turn(100);
        check.same("state()", x.state(), 's');
        check.same("stops()", x.stops(), 2);
    }

    private static void holds() {
        Ringtrack x = Rings.disc(4, 0);
        x.power(false);
        x.turn(16);
        check.same("holds() at a way of 16", x.holds(), true);
        x.turn(1);
        check.same("holds() at a way of 17", x.holds(), false);
        x.turn(-33);
        check.same("holds() at a way of 16 back", x.holds(), true);
        x.turn(-1);
        check.same("holds() at a way of 17 back", x.holds(), false);
        x.turn(17 - 128);
        check.same("holds() at a half turn", x.holds(), false);
        Ringtrack y = Rings.disc(4, 0);
        y.turn(128);
        check.same("holds() when stopped", y.holds(), true);
        Ringtrack z = Rings.typedDisc(10, Rings.SIX);
        z.stick(0, 1, 1);
        z.turn(0);
        z.power(false);
        z.turn(34);
        check.same("holds() degraded, at a way of 26", z.holds(), true);
        z.turn(1);
        check.same("holds() degraded, at a way of 27", z.holds(), false);
    }

    private static void toldRounds() {
        Ringtrack x = Rings.disc(2, 0);
        x.turn(63);
        is("told over the end back", x, 't', 56, -1, 16);
        x.turn(1);
        is("told over the end forth", x, 't', 8, 0, 16);
        x.turn(31);
        x.turn(16);
        x.turn(15);
        is("told short of the end", x, 't', 56, 0, 16);
        x.turn(2);
        is("told over the end again", x, 't', 8, 1, 16);
        x.turn(-2);
        x.turn(-30);
        x.turn(-32);
        is("told a turn back", x, 't', 8, 0, 16);
        x.turn(-16);
        check.same("toldRounds()", x.toldRounds(), -1);
        halfTurns();
        toldAsZero();
        Ringtrack y = Rings.disc(2, 0);
        y.turn(-8);
        check.same("toldRounds() below 0", y.toldRounds(), -1);
        y.setLimit(8);
        y.turn(-24);
        check.same("toldRounds() of a stop", y.toldRounds(), -1);
    }

    /** A way of a half turn is one back. */
    private static void halfTurns() {
        Ringtrack x = Rings.disc(2, 0);
        x.turn(31);
        x.turn(31);
        is("a half turn on, over the end back", x, 't', 56, -1, 16);
        x.turn(-31);
        is("a half turn back", x, 't', 24, -1, 16);
        check.same("wayAt(1)", x.wayAt(1), -32);
        check.same("wayAt(2)", x.wayAt(2), -32);
    }

    /** What is told as 0 is over the end that it came to forth, and not over that it came to back. */
    private static void toldAsZero() {
        Ringtrack x = Rings.disc(2, 40);
        x.setLimit(400);
        x.turn(32);
        is("at the half", x, 't', 40, -1, 16);
        x.turn(30);
        is("at the end, forth", x, 't', 0, 0, 16);
        x.turn(-10);
        is("before the end", x, 't', 24, 0, 16);
        x.turn(10);
        is("at the end, back", x, 't', 0, 0, 16);
    }

    private static void start() {
        Ringtrack x = Rings.disc(4, 0);
        x.turn(16);
        x.turn(16);
        x.turn(80);
        check.same("start()", x.start(), true);
        is("when it started", x, 't', 120, 0, 16);
        check.missing("wayAt(0) behind a start", () -> x.wayAt(0));
        check.same("stops()", x.stops(), 1);
        x.turn(16);
        check.same("wayAt(0) behind a start and a turning", x.wayAt(0), 16);
        check.same("start() when trusted", x.start(), true);
        Ringtrack y = Rings.disc(4, 40);
        y.turn(32);
        check.same("state()", y.state(), 'd');
        check.same("start() when degraded", y.start(), true);
        is("when it started from 'd'", y, 't', 32, 0, 16);
    }

    private static void startCannot() {
        Ringtrack x = Rings.typedDisc(0, Rings.SIX);
        x.turn(16);
        x.stick(0, 1, 1);
        x.turn(-16);
        check.same("start() with the head 1 alone", x.start(), false);
        is("behind a start that could not be", x, 'd', 8, 0, 16);
        check.same("wayAt(0)", x.wayAt(0), 24);
        check.same("stops()", x.stops(), 0);
        x.stick(1, 1, 0);
        x.turn(0);
        check.same("start() with no head", x.start(), false);
        is("behind another start that could not be", x, 's', 8, 0, 48);
        check.same("stops()", x.stops(), 1);
        x.stick(0, 1, -1);
        check.same("start() with the head 0 alone", x.start(), false);
        check.same("state()", x.state(), 's');
        Ringtrack y = Rings.disc(4, 40);
        y.turn(40);
        y.setTolerance(63);
        check.same("start() below the tolerance", y.start(), false);
        check.same("state()", y.state(), 'd');
        y.setTolerance(64);
        check.same("start() within the tolerance", y.start(), true);
        check.same("told()", y.told(), 40);
    }

    private static void startCountsRounds() {
        Ringtrack x = Rings.disc(4, 0);
        x.turn(-60);
        is("when it stopped", x, 's', 0, 0, 128);
        x.start();
        is("started over the end back", x, 't', 200, -1, 16);
        x.turn(60);
        x.start();
        is("started over the end forth", x, 't', 8, 0, 16);
        Ringtrack y = Rings.disc(2, 0);
        y.addGear(4);
        y.addGear(6);
        y.slip(0, 1);
        y.turn(-1);
        y.start();
        check.same("toldRounds() of gears that tell none", y.toldRounds(), -1);
        y.slip(0, -1);
        y.start();
        check.same("toldRounds() of gears", y.toldRounds(), 11);
    }

    private static void power() {
        Ringtrack x = Rings.disc(4, 0);
        x.turn(16);
        check.same("power(false)", x.power(false), true);
        check.same("power(false) again", x.power(false), false);
        check.same("turn(100)", x.turn(100), 116);
        is("without power", x, 't', 24, 0, 16);
        check.same("wayAt(0) without power", x.wayAt(0), 24);
        check.unsupported("start() without power", () -> x.start());
        check.same("power(true)", x.power(true), false);
        is("with power again", x, 't', 120, 0, 16);
        check.missing("wayAt(0) with power again", () -> x.wayAt(0));
        x.turn(16);
        check.same("power(true) when it is on", x.power(true), true);
        check.same("wayAt(0) behind that", x.wayAt(0), 16);
        check.same("stops()", x.stops(), 0);
        x.turn(100);
        check.same("power(true) when stopped", x.power(true), true);
        check.same("state()", x.state(), 's');
    }

    private static void powerThatStops() {
        Ringtrack x = Rings.typedDisc(0, Rings.SIX);
        x.turn(0);
        x.stick(0, 1, 1);
        x.power(false);
        x.turn(90);
        x.turn(-85);
        check.same("power(true)", x.power(true), false);
        is("with one head", x, 's', 8, 0, 48);
        check.same("stops()", x.stops(), 1);
        check.same("wayAt(0)", x.wayAt(0), 8);
        x.power(false);
        check.same("state() without power", x.state(), 's');
        check.same("power(true) when stopped", x.power(true), false);
        check.same("stops() once more", x.stops(), 2);
        x.power(false);
        x.stick(0, 1, -1);
        x.turn(16);
        check.same("power(true)", x.power(true), false);
        is("with both heads", x, 't', 24, 0, 16);
        check.same("stops()", x.stops(), 2);
    }

    private static void ways() {
        Ringtrack x = Rings.disc(6, 0);
        x.setLimit(400);
        x.turn(0);
        for (int k = 1; k <= 7; k++) {
            x.turn(16 * k);
        }
        check.same("wayAt(0) of 8", x.wayAt(0), 8);
        check.same("wayAt(7) of 8", x.wayAt(7), 112);
        check.missing("wayAt(8)", () -> x.wayAt(8));
        check.missing("wayAt(-1)", () -> x.wayAt(-1));
        x.turn(-160);
        x.turn(0);
        int[] due = {32, 48, 64, 80, 96, 112, -160, 0};
        for (int k = 0; k < 8; k++) {
            check.same("wayAt(" + k + ")", x.wayAt(k), due[k]);
        }
        check.missing("wayAt(8) of 10", () -> x.wayAt(8));
        check.same("speed()", x.speed(), 34.0);
    }

    private static void speed() {
        Ringtrack x = Rings.disc(4, 0);
        check.missing("speed() of no ways", () -> x.speed());
        x.turn(16);
        check.same("speed() of one", x.speed(), 24.0);
        x.turn(0);
        x.turn(16);
        check.same("speed() of three", x.speed(), 40.0 / 3.0);
        x.turn(-32);
        x.turn(-32);
        check.same("speed() of five", x.speed(), -4.8);
        x.start();
        check.missing("speed() behind a start", () -> x.speed());
    }
}
