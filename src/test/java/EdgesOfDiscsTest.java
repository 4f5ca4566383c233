import java.util.function.Supplier;

/** The paragraphs "Discs" and "Dirt" and the promises 13 to 21, sentence by sentence, at their edges. */
public final class EdgesOfDiscsTest {

    private static final Check check = new Check("edges of discs");
    private static final Ranges ranges = new Ranges(check);
    /** A square has 64 steps a turn, six words have 96: with a quarter of 16, or 24. */
    private static final Supplier<Ringtrack> SQUARE = () -> Rings.disc(2, 0);

    public static void main(String[] args) {
        discs();
        trueAngle();
        trueRounds();
        errorRisesAndFalls();
        errorIsCut();
        placesOfHeads();
        placesAreModuloTheTurn();
        waysAreModuloTheTurn();
        specks();
        specksCreepForth();
        specksCreepModulo();
        sticking();
        estimates();
        estimatesAreModuloTheTurn();
        setDisc();
        angle();
        rounds();
        addSpeck();
        addSpeckRefuses();
        clean();
        stick();
        seen();
        estimate();
        turn();
        check.end();
    }

    // ---- Terms: Discs

    private static void discs() {
        check.says("A disc has a code, with N words, N being even, 16 steps for each, 16 N in a turn, and is off its"
                + " centre by 0 to 40 steps.");
        check.same("setDisc of 4 words", Rings.ofReflected(2).setDisc(0, 0), 64);
        check.same("setDisc of 6 words", Rings.ofTyped(Rings.SIX).setDisc(0, 0), 96);
        check.same("setDisc of 64 words", Rings.ofReflected(6).setDisc(0, 40), 1024);
        Ringtrack x = Rings.disc(2, 0);
        for (int angle = 0; angle < 64; angle++) {
            check.same("seen(0) at " + angle, x.seen(0), Rings.SQUARE[angle / 16]);
            check.same("seen(1) at " + angle, x.seen(1), Rings.SQUARE[(angle / 16 + 2) % 4]);
            x.turn(1);
        }
        check.same("seen(0) behind the turn", x.seen(0), 0);
        Ringtrack y = Rings.ofReflected(2);
        ranges.within("setDisc(0, .)", () -> Rings.ofReflected(2), 0, 40, (z, n) -> z.setDisc(0, n), n -> 64);
        ranges.outOfRange("setDisc(0, .)", () -> Rings.ofReflected(2), 0, 40, (z, n) -> z.setDisc(0, n));
        check.unsupported("angle(): there is no disc", () -> y.angle());
    }

    private static void trueAngle() {
        check.says("The true angle is 0 at first, from 0 to 16 N - 1; true rounds are 0.");
        Ringtrack x = Rings.typedDisc(0, Rings.SIX);
        check.same("angle() at first", x.angle(), 0);
        check.same("turn(95)", x.turn(95), 95);
        check.same("turn(1) to the end", x.turn(1), 0);
        check.same("turn(-1) back over it", x.turn(-1), 95);
        check.same("turn(-95)", x.turn(-95), 0);
        check.same("turn(96)", x.turn(96), 0);
        check.same("turn(-96)", x.turn(-96), 0);
        check.same("turn(97)", x.turn(97), 1);
        check.same("turn(-98)", x.turn(-98), 95);
        check.same("turn(500)", x.turn(500), 19);
        check.same("turn(-500)", x.turn(-500), 95);
        check.same("angle()", x.angle(), 95);
    }

    private static void roundsBehind(int due, int... turnings) {
        Ringtrack x = SQUARE.get();
        for (int steps : turnings) {
            x.turn(steps);
        }
        check.same("trueRounds() behind " + java.util.Arrays.toString(turnings), x.trueRounds(), due);
    }

    private static void trueRounds() {
        check.says("The true angle is 0 at first, from 0 to 16 N - 1; true rounds are 0.");
        roundsBehind(0);
        roundsBehind(0, 63);
        roundsBehind(1, 64);
        roundsBehind(1, 63, 1);
        roundsBehind(0, 63, 1, -1);
        roundsBehind(-1, -1);
        roundsBehind(-1, -64);
        roundsBehind(-2, -65);
        roundsBehind(0, -1, 1);
        roundsBehind(7, 500);
        roundsBehind(-8, -500);
        roundsBehind(0, 500, -500);
        roundsBehind(15, 500, 500);
    }

    private static final String ERROR = "The hub's error at an angle rises from 0 at 0 to what it is off at a quarter of"
            + " the turn, falls to 0 at the half, to as much below 0 at three quarters, and rises to 0: that times the"
            + " steps to the nearer one of 0 and the half, divided by 4 N, cut.";

    /** The places of both heads tell the error: the head 0 is at angle + error, the head 1 at angle + half - error. */
    private static void places(Ringtrack x, int angle, int first, int second) {
        int steps = angle - x.angle();
        x.turn(steps / 2);
        x.turn(steps - steps / 2);
        check.same("estimate(0) at " + angle, x.estimate(0), 16 * first + 8);
        int turn = 16 * x.words(0);
        check.same("estimate(1) at " + angle, x.estimate(1), (16 * second + 8 + turn / 2) % turn);
    }

    private static void errorRisesAndFalls() {
        check.says(ERROR);
        Ringtrack x = Rings.disc(6, 32);
        places(x, 0, 0, 32);
        places(x, 256, 18, 46);
        places(x, 128, 9, 39);
        places(x, 384, 25, 55);
        places(x, 512, 32, 0);
        places(x, 640, 39, 9);
        places(x, 768, 46, 18);
        places(x, 896, 55, 25);
        places(x, 1023, 63, 31);
        Ringtrack none = Rings.disc(6, 0);
        places(none, 256, 16, 48);
        places(none, 255, 15, 47);
        places(none, 768, 48, 16);
    }

    /** With 6 words and off by 1, 2 or 3: 16 and 15 steps times that, divided by 24. */
    private static void errorIsCut() {
        check.says(ERROR);
        Ringtrack one = Rings.typedDisc(1, Rings.SIX);
        places(one, 31, 1, 4);
        places(one, 15, 0, 3);
        places(one, 24, 1, 4);
        places(one, 64, 4, 1);
        places(one, 80, 5, 2);
        places(one, 63, 3, 0);
        places(one, 72, 4, 1);
        Ringtrack two = Rings.typedDisc(2, Rings.SIX);
        places(two, 15, 1, 3);
        places(two, 14, 0, 3);
        places(two, 31, 2, 4);
        places(two, 63, 3, 1);
        places(two, 62, 3, 0);
        places(two, 64, 3, 1);
        places(two, 65, 4, 1);
        places(two, 80, 4, 2);
        places(two, 81, 5, 2);
        Ringtrack three = Rings.typedDisc(3, Rings.SIX);
        places(three, 16, 1, 3);
        places(three, 17, 1, 3);
        places(three, 18, 1, 4);
    }

    private static void placesOfHeads() {
        check.says("The head 0 is at the place of the angle and the error, divided by 16, cut, the head 1 at that of the"
                + " angle, a half turn more and the error less; all modulo the turn.");
        Ringtrack x = Rings.disc(2, 0);
        places(x, 0, 0, 2);
        places(x, 15, 0, 2);
        places(x, 16, 1, 3);
        places(x, 31, 1, 3);
        Ringtrack y = Rings.disc(2, 40);
        places(y, 16, 3, 0);
        places(y, 8, 1, 1);
        places(y, 24, 2, 2);
        places(y, 48, 0, 3);
        places(y, 40, 1, 1);
        places(y, 56, 2, 2);
    }

    private static void placesAreModuloTheTurn() {
        check.says("The head 0 is at the place of the angle and the error, divided by 16, cut, the head 1 at that of the"
                + " angle, a half turn more and the error less; all modulo the turn.");
        Ringtrack x = Rings.disc(2, 0);
        places(x, 32, 2, 0);
        places(x, 47, 2, 0);
        places(x, 48, 3, 1);
        places(x, 63, 3, 1);
        Ringtrack y = Rings.disc(2, 40);
        places(y, 32, 2, 0);
        places(y, 33, 1, 0);
        places(y, 50, 0, 3);
        places(y, 63, 3, 2);
    }

    /** A way of a half turn goes back, and a way of 8 steps less goes forth. */
    private static void waysAreModuloTheTurn() {
        check.says("The way from an angle to another one is the difference, from -8 N to 8 N - 1.");
        Ringtrack x = Rings.disc(2, 0);
        x.turn(16);
        x.turn(32);
        check.same("wayAt(0): from 0 to 24", x.wayAt(0), 24);
        check.same("wayAt(1): from 24 to 56", x.wayAt(1), -32);
        x.turn(-32);
        check.same("wayAt(2): from 56 to 24", x.wayAt(2), -32);
        x.turn(-16);
        x.turn(-16);
        check.same("wayAt(4): from 8 to 56", x.wayAt(4), -16);
        x.turn(16);
        check.same("wayAt(5): from 56 to 8", x.wayAt(5), 16);
        Ringtrack y = Rings.typedDisc(0, Rings.SIX);
        y.turn(32);
        check.same("wayAt(0): from 0 to 40", y.wayAt(0), 40);
        y.setLimit(48);
        y.turn(48);
        check.same("wayAt(1): from 40 to 88", y.wayAt(1), -48);
        y.power(false);
        y.turn(8 - y.angle());
        check.same("holds(): from 8 to 88", y.holds(), true);
    }

    // ---- Terms: Dirt

    private static final String SPECKS = "At most 6 specks lie on the disc, each at a place and a track: the mark there"
            + " is seen as 0.";

    private static void seenRow(Ringtrack x, String when, int... due) {
        for (int k = 0; k < due.length; k++) {
            x.turn(16 * k - x.angle());
            check.same("seen(0) at the place " + k + " " + when, x.seen(0), due[k]);
        }
        x.turn(-x.angle());
    }

    private static void specks() {
        check.says(SPECKS);
        Ringtrack x = Rings.typedDisc(0, Rings.SIX);
        seenRow(x, "without specks", 0, 1, 3, 7, 6, 4);
        int[][] at = {{3, 0}, {3, 1}, {3, 2}, {0, 0}, {5, 2}, {1, 2}};
        int[][] due = {
            {0, 1, 3, 6, 6, 4}, {0, 1, 3, 4, 6, 4}, {0, 1, 3, 0, 6, 4},
            {0, 1, 3, 0, 6, 4}, {0, 1, 3, 0, 6, 0}, {0, 1, 3, 0, 6, 0},
        };
        for (int k = 0; k < 6; k++) {
            check.same("addSpeck as number " + k, x.addSpeck(at[k][0], at[k][1], 0), k + 1);
            seenRow(x, "with the specks up to " + k, due[k]);
        }
        check.same("seen(1) of the specks at the place 3", x.seen(1), 0);
        check.full("addSpeck at 6", () -> x.addSpeck(2, 0, 0));
        seenRow(x, "with 6 specks", 0, 1, 3, 0, 6, 0);
        Ringtrack twice = SQUARE.get();
        twice.addSpeck(2, 0, 0);
        twice.addSpeck(2, 0, 0);
        seenRow(twice, "with two specks on one mark", 0, 1, 2, 2);
    }

    private static final String CREEPS = "A speck creeps by 0 to 9 places whenever the true angle comes forth over the"
            + " end of a turn, modulo N.";

    private static Ringtrack crept(int creep, int... turnings) {
        Ringtrack x = Rings.typedDisc(0, 128, 129, 131, 135, 134, 132);
        x.power(false);
        x.addSpeck(0, 7, creep);
        for (int steps : turnings) {
            x.turn(steps);
        }
        return x;
    }

    /** The speck hides the track 7, which all words have. */
    private static void isAt(int place, Ringtrack x, String when) {
        int[] words = {128, 129, 131, 135, 134, 132};
        words[place] -= 128;
        int angle = x.angle();
        for (int k = 5; k >= 0; k--) {
            x.turn(16 * k - x.angle());
            check.same("seen(0) at the place " + k + " " + when, x.seen(0), words[k]);
        }
        check.same("turned back", x.turn(angle - x.angle()), angle);
    }

    private static void specksCreepForth() {
        check.says(CREEPS);
        isAt(0, crept(1), "at first");
        isAt(0, crept(1, 95), "before the end");
        isAt(1, crept(1, 96), "at the end");
        isAt(1, crept(1, 95, 1), "at the end in two");
        isAt(1, crept(1, 95, 2), "behind the end");
        isAt(0, crept(1, -1), "back over the end");
        isAt(0, crept(1, -96), "a turn back");
        isAt(0, crept(1, -500), "five turns back");
        isAt(1, crept(1, 96, -96), "forth and back");
        isAt(2, crept(1, 96, -1, 1), "forth, back and forth");
        isAt(1, crept(1, -1, 1), "back and forth");
        isAt(2, crept(1, 96, 96), "two turns on");
        isAt(5, crept(1, 480), "five turns on at once");
        isAt(5, crept(1, 500), "five turns and 20 steps on at once");
        isAt(1, crept(1, 0, 0, 96, 0, 0), "and turned by 0");
    }

    private static void specksCreepModulo() {
        check.says(CREEPS);
        isAt(0, crept(0, 480), "by 0");
        isAt(5, crept(5, 96), "by 5");
        isAt(0, crept(6, 96), "by 6");
        isAt(1, crept(7, 96), "by 7");
        isAt(3, crept(9, 96), "by 9");
        isAt(0, crept(9, 96, 96), "by 9, twice");
        isAt(4, crept(8, 192), "by 8, twice at once");
        isAt(2, crept(4, 480), "by 4, five times at once");
        Ringtrack x = Rings.typedDisc(0, Rings.SIX);
        x.addSpeck(5, 2, 1);
        x.turn(96);
        seenRow(x, "from the last place on", 0, 1, 3, 7, 6, 4);
        x.turn(-1);
        x.turn(1);
        x.turn(-1);
        x.turn(1);
        x.turn(-1);
        x.turn(1);
        seenRow(x, "from the first place on", 0, 1, 3, 3, 6, 4);
        ranges.within("addSpeck(0, 0, .)", SQUARE, 0, 9, (y, n) -> y.addSpeck(0, 0, n), n -> 1);
        ranges.outOfRange("addSpeck(0, 0, .)", SQUARE, 0, 9, (y, n) -> y.addSpeck(0, 0, n));
    }

    private static void sticking() {
        check.says("Of a head a track can stick, and is seen as 0, or as 1, whatever there is.");
        Ringtrack x = Rings.disc(2, 0);
        x.stick(0, 0, 1);
        seenRow(x, "with the track 0 as 1", 1, 1, 3, 3);
        x.stick(0, 0, 0);
        seenRow(x, "with the track 0 as 0", 0, 0, 2, 2);
        x.stick(0, 1, 1);
        seenRow(x, "with the track 1 as 1, too", 2, 2, 2, 2);
        x.stick(0, 1, 0);
        seenRow(x, "with both as 0", 0, 0, 0, 0);
        check.same("seen(1): the other head does not stick", x.seen(1), 3);
        x.stick(0, 0, -1);
        x.stick(0, 1, -1);
        seenRow(x, "without sticking", 0, 1, 3, 2);
        x.stick(1, 1, 0);
        check.same("seen(1) with the track 1 as 0", x.seen(1), 1);
        check.same("seen(0): the other head does not stick", x.seen(0), 0);
        x.addSpeck(2, 0, 0);
        check.same("seen(1) of a speck", x.seen(1), 0);
        x.stick(1, 0, 1);
        check.same("seen(1) as 1 over a speck", x.seen(1), 1);
        check.same("angle(): nothing turned", x.angle(), 0);
    }

    private static final String ESTIMATE = "A head's place is that of the word that it sees, if the code has that; its"
            + " estimate is 16 times the place, and 8, for the head 1 a half turn less, modulo the turn.";

    private static void estimates() {
        check.says(ESTIMATE);
        Ringtrack x = Rings.typedDisc(0, Rings.SIX);
        check.same("estimate(0) of the first place", x.estimate(0), 8);
        x.turn(80);
        check.same("estimate(0) of the last place", x.estimate(0), 88);
        x.stick(0, 0, 1);
        check.same("seen(0) of no word", x.seen(0), 5);
        check.missing("estimate(0) of no word", () -> x.estimate(0));
        check.same("estimate(1)", x.estimate(1), 88);
        x.stick(0, 1, 1);
        check.same("seen(0) of another word", x.seen(0), 7);
        check.same("estimate(0) of another word", x.estimate(0), 56);
        x.stick(1, 1, 0);
        x.turn(-80);
        check.same("seen(1) of no word", x.seen(1), 5);
        check.missing("estimate(1) of no word", () -> x.estimate(1));
        Ringtrack high = Rings.typedDisc(0, 128, 129, 131, 130);
        high.stick(0, 7, 0);
        check.same("seen(0) below the words", high.seen(0), 0);
        check.missing("estimate(0) below the words", () -> high.estimate(0));
    }

    private static void estimatesAreModuloTheTurn() {
        check.says(ESTIMATE);
        int[] due = {8, 24, 40, 56, 72, 88};
        Ringtrack x = Rings.typedDisc(0, Rings.SIX);
        for (int k = 0; k < 6; k++) {
            check.same("estimate(0) at the place " + k, x.estimate(0), due[k]);
            check.same("estimate(1) at the place " + k, x.estimate(1), due[k]);
            x.turn(16);
        }
        x.stick(1, 2, 0);
        check.same("seen(1) as the word of the place 2", x.seen(1), 3);
        check.same("estimate(1) of the place 2: 40 less 48", x.estimate(1), 88);
    }

    // ---- promises 13 to 21

    private static void setDisc() {
        check.says(13, "Returns how many steps a turn has.");
        Ringtrack two = Rings.ofReflected(2);
        two.reflected(6);
        check.same("setDisc(0, 0)", two.setDisc(0, 0), 64);
        check.same("setDisc(1, 0)", two.setDisc(1, 0), 1024);
        check.says(13, "Puts on a new disc, with no specks, sticking, gears, frames and page.");
        Ringtrack x = Rings.disc(2, 40);
        for (int k = 0; k < 6; k++) {
            x.addSpeck(2, 0, 0);
        }
        x.stick(0, 0, 1);
        x.stick(1, 1, 0);
        x.addGear(2);
        x.addGear(3);
        x.addGear(4);
        x.send(1);
        x.send(9);
        x.tick(1);
        x.bench();
        check.same("setDisc(0, 0)", x.setDisc(0, 0), 64);
        check.same("stick(0, 0, -1)", x.stick(0, 0, -1), -1);
        check.same("stick(1, 1, -1)", x.stick(1, 1, -1), -1);
        check.same("seen(1)", x.seen(1), 3);
        check.same("clean()", x.clean(), 0);
        check.unknown("tooth(0)", () -> x.tooth(0));
        check.same("addGear(2)", x.addGear(2), 0);
        check.missing("flip(0, 0)", () -> x.flip(0, 0));
        check.missing("take()", () -> x.take());
        check.same("tick(20)", x.tick(20), 0);
        for (int k = 0; k < 4; k++) {
            check.same("page(" + k + ")", x.page(k), 0);
        }
        x.turn(24);
        check.same("estimate(0): it is not off", x.estimate(0), 24);
        check.says(13, "- `off`: by how many steps it is off its centre");
        ranges.within("setDisc(0, .)", () -> Rings.disc(2, 9), 0, 40, (y, n) -> y.setDisc(0, n), n -> 64);
        check.says(13, "Throws `IndexOutOfBoundsException` if there is no such code");
        ranges.noSuchNumber("setDisc(., 0)", () -> Rings.ofReflected(2), 1, (y, n) -> y.setDisc(n, 0));
        ranges.noSuchNumber("setDisc(., 41)", () -> Rings.ofReflected(2), 1, (y, n) -> y.setDisc(n, 41));
        ranges.noSuchNumber("setDisc(., 0) of none", Ringtrack::new, 0, (y, n) -> y.setDisc(n, 0));
        check.says(13, "Throws `IllegalArgumentException` if a number is out of range");
        ranges.outOfRange("setDisc(0, .)", () -> Rings.disc(2, 9), 0, 40, (y, n) -> y.setDisc(0, n));
    }

    private static void angle() {
        check.says(14, "Returns the steps.");
        Ringtrack x = Rings.disc(2, 5);
        x.turn(63);
        check.same("angle()", x.angle(), 63);
        x.power(false);
        x.turn(2);
        check.same("angle() without power", x.angle(), 1);
        check.says(14, "Throws `UnsupportedOperationException` if there is no disc");
        check.unsupported("angle()", () -> Rings.ofReflected(2).angle());
        check.unsupported("angle() of a new object", () -> new Ringtrack().angle());
    }

    private static void rounds() {
        check.says(15, "Returns their number, perhaps below 0.");
        Ringtrack x = SQUARE.get();
        x.turn(-1);
        check.same("trueRounds()", x.trueRounds(), -1);
        x.power(false);
        x.turn(-500);
        check.same("trueRounds() without power", x.trueRounds(), -8);
        check.says(15, "Throws `UnsupportedOperationException` if there is no disc");
        check.unsupported("trueRounds()", () -> Rings.ofReflected(2).trueRounds());
    }

    private static void addSpeck() {
        check.says(16, "Returns how many there are.");
        Ringtrack x = SQUARE.get();
        for (int k = 1; k <= 6; k++) {
            check.same("addSpeck(0, 0, 0)", x.addSpeck(0, 0, 0), k);
        }
        check.says(16, "- `place`: the place");
        Supplier<Ringtrack> six = () -> Rings.typedDisc(0, Rings.SIX);
        ranges.within("addSpeck(., 0, 0)", SQUARE, 0, 3, (y, n) -> y.addSpeck(n, 0, 0), n -> 1);
        ranges.within("addSpeck(., 0, 0) of six", six, 0, 5, (y, n) -> y.addSpeck(n, 0, 0), n -> 1);
        check.says(16, "- `track`: the track");
        ranges.within("addSpeck(0, ., 0)", SQUARE, 0, 1, (y, n) -> y.addSpeck(0, n, 0), n -> 1);
        ranges.within("addSpeck(0, ., 0) of six", six, 0, 2, (y, n) -> y.addSpeck(0, n, 0), n -> 1);
        check.says(16, "- `creep`: by how many places it creeps");
        ranges.within("addSpeck(0, 0, .)", SQUARE, 0, 9, (y, n) -> y.addSpeck(0, 0, n), n -> 1);
    }

    private static Ringtrack withSixSpecks() {
        Ringtrack x = SQUARE.get();
        for (int k = 0; k < 6; k++) {
            x.addSpeck(0, 0, 0);
        }
        return x;
    }

    private static void addSpeckRefuses() {
        check.says(16, "Throws `UnsupportedOperationException` if there is no disc");
        check.unsupported("addSpeck(0, 0, 0)", () -> Rings.ofReflected(2).addSpeck(0, 0, 0));
        check.unsupported("addSpeck(-1, 0, 0)", () -> Rings.ofReflected(2).addSpeck(-1, 0, 0));
        check.says(16, "Throws `IllegalArgumentException` if there is no such place or track, or a number is out of range");
        for (Supplier<Ringtrack> fresh : java.util.List.of(SQUARE, EdgesOfDiscsTest::withSixSpecks)) {
            ranges.outOfRange("addSpeck(., 0, 0)", fresh, 0, 3, (y, n) -> y.addSpeck(n, 0, 0));
            ranges.outOfRange("addSpeck(0, ., 0)", fresh, 0, 1, (y, n) -> y.addSpeck(0, n, 0));
            ranges.outOfRange("addSpeck(0, 0, .)", fresh, 0, 9, (y, n) -> y.addSpeck(0, 0, n));
        }
        check.says(16, "Throws `IllegalStateException` if there are 6");
        Ringtrack x = withSixSpecks();
        check.full("addSpeck(0, 0, 0) at 6", () -> x.addSpeck(0, 0, 0));
        check.full("addSpeck(3, 1, 9) at 6", () -> x.addSpeck(3, 1, 9));
        check.same("clean() at 6", x.clean(), 6);
        check.same("addSpeck(3, 1, 9) behind clean()", x.addSpeck(3, 1, 9), 1);
    }

    private static void clean() {
        check.says(17, "Takes all specks away.");
        Ringtrack x = withSixSpecks();
        x.addGear(2);
        x.clean();
        x.addSpeck(3, 1, 0);
        x.clean();
        seenRow(x, "behind clean()", 0, 1, 3, 2);
        check.says(17, "Returns how many there were.");
        check.same("clean() of none", x.clean(), 0);
        check.same("clean() of 6", withSixSpecks().clean(), 6);
        x.addSpeck(0, 0, 0);
        check.same("clean() of one", x.clean(), 1);
        check.says(17, "Throws `UnsupportedOperationException` if there is no disc");
        check.unsupported("clean()", () -> Rings.ofReflected(2).clean());
    }

    private static void stick() {
        check.says(18, "Returns as what it stuck before.");
        Ringtrack x = SQUARE.get();
        int[] as = {1, 1, 0, 0, -1, 0, 1, -1, -1};
        int before = -1;
        for (int next : as) {
            check.same("stick(1, 1, " + next + ")", x.stick(1, 1, next), before);
            before = next;
        }
        check.says(18, "- `head`: 0 or 1");
        ranges.within("stick(., 0, 0)", SQUARE, 0, 1, (y, n) -> y.stick(n, 0, 0), n -> -1);
        check.says(18, "- `track`: the track");
        ranges.within("stick(0, ., 0)", SQUARE, 0, 1, (y, n) -> y.stick(0, n, 0), n -> -1);
        check.says(18, "- `as`: 0 or 1, or -1 for not");
        ranges.within("stick(0, 0, .)", SQUARE, -1, 1, (y, n) -> y.stick(0, 0, n), n -> -1);
        check.says(18, "Throws `UnsupportedOperationException` if there is no disc");
        check.unsupported("stick(0, 0, 0)", () -> Rings.ofReflected(2).stick(0, 0, 0));
        check.unsupported("stick(2, 9, 9)", () -> Rings.ofReflected(2).stick(2, 9, 9));
        check.says(18, "Throws `IllegalArgumentException` if there is no such head or track, or the number is out of range");
        ranges.outOfRange("stick(., 0, 0)", SQUARE, 0, 1, (y, n) -> y.stick(n, 0, 0));
        ranges.outOfRange("stick(0, ., 0)", SQUARE, 0, 1, (y, n) -> y.stick(0, n, 0));
        ranges.outOfRange("stick(0, ., -1)", SQUARE, 0, 1, (y, n) -> y.stick(0, n, -1));
        ranges.outOfRange("stick(0, 0, .)", SQUARE, -1, 1, (y, n) -> y.stick(0, 0, n));
    }

    private static void seen() {
        check.says(19, "- `head`: 0 or 1");
        ranges.within("seen", SQUARE, 0, 1, Ringtrack::seen, n -> n == 0 ? 0 : 3);
        check.says(19, "Returns the word.");
        Ringtrack x = Rings.typedDisc(0, 255, 254, 252, 253);
        check.same("seen(0) of 8 marks", x.seen(0), 255);
        x.stick(0, 0, 0);
        x.addSpeck(0, 7, 0);
        check.same("seen(0) of no word of the code", x.seen(0), 126);
        check.says(19, "Throws `UnsupportedOperationException` if there is no disc");
        check.unsupported("seen(0)", () -> Rings.ofReflected(2).seen(0));
        check.unsupported("seen(2)", () -> Rings.ofReflected(2).seen(2));
        check.says(19, "Throws `IllegalArgumentException` if there is no such head");
        ranges.outOfRange("seen", SQUARE, 0, 1, Ringtrack::seen);
    }

    private static void estimate() {
        Supplier<Ringtrack> six = () -> Rings.typedDisc(0, Rings.SIX);
        check.says(20, "- `head`: 0 or 1");
        ranges.within("estimate", six, 0, 1, Ringtrack::estimate, n -> 8);
        check.says(20, "Returns the steps.");
        Ringtrack x = Rings.disc(6, 40);
        x.turn(-1);
        check.same("estimate(0) of the last place of 64", x.estimate(0), 1016);
        check.same("estimate(1) of the place 31", x.estimate(1), 1016);
        check.says(20, "Throws `UnsupportedOperationException` if there is no disc");
        check.unsupported("estimate(0)", () -> Rings.ofReflected(2).estimate(0));
        check.unsupported("estimate(-1)", () -> Rings.ofReflected(2).estimate(-1));
        check.says(20, "Throws `IllegalArgumentException` if there is no such head");
        ranges.outOfRange("estimate", six, 0, 1, Ringtrack::estimate);
        check.says(20, "Throws `NoSuchElementException` if it has none");
        Ringtrack none = six.get();
        none.stick(0, 1, 1);
        check.missing("estimate(0)", () -> none.estimate(0));
        check.same("estimate(1)", none.estimate(1), 8);
        check.bad("estimate(2)", () -> none.estimate(2));
        none.stick(1, 1, 0);
        check.missing("estimate(1)", () -> none.estimate(1));
        none.stick(1, 1, -1);
        check.same("estimate(1) again", none.estimate(1), 8);
    }

    private static void turn() {
        check.says(21, "- `steps`: -500 to 500");
        Supplier<Ringtrack> large = () -> Rings.disc(6, 0);
        ranges.within("turn", large, -500, 500, Ringtrack::turn, n -> n < 0 ? 1024 + n : n);
        check.says(21, "Returns the true angle then.");
        check.same("turn(0)", large.get().turn(0), 0);
        Ringtrack x = SQUARE.get();
        check.same("turn(64)", x.turn(64), 0);
        x.power(false);
        check.same("turn(-1) without power", x.turn(-1), 63);
        check.says(21, "Throws `UnsupportedOperationException` if there is no disc");
        check.unsupported("turn(0)", () -> Rings.ofReflected(2).turn(0));
        check.unsupported("turn(501)", () -> Rings.ofReflected(2).turn(501));
        check.says(21, "Throws `IllegalArgumentException` if a number is out of range");
        ranges.outOfRange("turn", large, -500, 500, Ringtrack::turn);
        ranges.outOfRange("turn without power", () -> {
            Ringtrack y = SQUARE.get();
            y.power(false);
            return y;
        }, -500, 500, Ringtrack::turn);
    }
}
