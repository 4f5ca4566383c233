/** Promises 13 to 21: the disc, its dirt, what its heads see, and turning. */
public final class DiscTest {

    private static final Check check = new Check("disc");

    public static void main(String[] args) {
        withoutDisc();
        setDisc();
        newDiscIsBare();
        newDiscKeepsTheRest();
        angleAndRounds();
        turnRefuses();
        addSpeck();
        addSpeckRefuses();
        specksCreep();
        eachSpeckCreepsByItsOwn();
        clean();
        stick();
        stickRefuses();
        seenOffCentre();
        estimate();
        check.end();
    }

    private static void withoutDisc() {
        Ringtrack x = Rings.ofReflected(2);
        check.unsupported("angle()", () -> x.angle());
        check.unsupported("trueRounds()", () -> x.trueRounds());
        check.unsupported("addSpeck(9, 9, 99)", () -> x.addSpeck(9, 9, 99));
        check.unsupported("clean()", () -> x.clean());
        check.unsupported("stick(9, 9, 9)", () -> x.stick(9, 9, 9));
        check.unsupported("seen(2)", () -> x.seen(2));
        check.unsupported("estimate(2)", () -> x.estimate(2));
        check.unsupported("turn(501)", () -> x.turn(501));
    }

    private static void setDisc() {
        Ringtrack x = Rings.ofReflected(3);
        check.same("setDisc(0, 0)", x.setDisc(0, 0), 128);
        check.same("setDisc(0, 40)", x.setDisc(0, 40), 128);
        x.turn(5);
        check.bad("setDisc(0, 41)", () -> x.setDisc(0, 41));
        check.bad("setDisc(0, -1)", () -> x.setDisc(0, -1));
        check.unknown("setDisc(1, 0)", () -> x.setDisc(1, 0));
        check.unknown("setDisc(-1, 41)", () -> x.setDisc(-1, 41));
        check.same("angle() of the disc that stays", x.angle(), 5);
        x.reflected(6);
        check.same("setDisc(1, 3)", x.setDisc(1, 3), 1024);
        check.same("angle() of the new disc", x.angle(), 0);
        check.same("seen(1) of the new disc", x.seen(1), 48);
    }

    /** A disc with everything on it that a new one has not. */
    private static Ringtrack worn() {
        Ringtrack x = Rings.disc(2, 40);
        x.addSpeck(1, 0, 0);
        x.stick(0, 1, 1);
        x.stick(1, 0, 0);
        x.addGear(5);
        x.bench();
        x.turn(-8);
        x.send(1);
        x.send(5);
        x.tick(1);
        return x;
    }

    private static void newDiscIsBare() {
        Ringtrack x = worn();
        x.power(false);
        check.same("setDisc(0, 0)", x.setDisc(0, 0), 64);
        check.same("angle()", x.angle(), 0);
        check.same("trueRounds()", x.trueRounds(), 0);
        check.same("told()", x.told(), 0);
        check.same("toldRounds()", x.toldRounds(), 0);
        check.same("state()", x.state(), 't');
        check.missing("wayAt(0)", () -> x.wayAt(0));
        check.missing("speed()", () -> x.speed());
        check.same("closing()", x.closing(), 0);
        check.same("page(1)", x.page(1), 0);
        check.missing("recover()", () -> x.recover());
        check.unknown("tooth(0)", () -> x.tooth(0));
        check.missing("flip(0, 0)", () -> x.flip(0, 0));
        check.missing("take()", () -> x.take());
        check.same("tick(20)", x.tick(20), 0);
        check.same("clean()", x.clean(), 0);
        check.same("stick(0, 1, -1)", x.stick(0, 1, -1), -1);
        check.same("stick(1, 0, -1)", x.stick(1, 0, -1), -1);
        check.same("power(true)", x.power(true), true);
    }

    private static void newDiscKeepsTheRest() {
        Ringtrack x = Rings.disc(2, 0);
        x.type(9);
        x.setLimit(8);
        x.setTolerance(99);
        x.turn(16);
        check.same("state()", x.state(), 's');
        x.send(1);
        x.flip(0, 0);
        x.tick(1);
        x.take();
        x.setDisc(0, 0);
        check.same("stops() of all discs", x.stops(), 1);
        check.same("setLimit(40)", x.setLimit(40), 8);
        check.same("setTolerance(48)", x.setTolerance(48), 99);
        check.same("bad()", x.bad(), 1);
        check.same("badShare()", x.badShare(), 1.0f);
        check.same("wipe()", x.wipe(), 1);
        check.same("words(0)", x.words(0), 4);
    }

    private static void turned(Ringtrack x, int steps, int angle, int rounds) {
        check.same("turn(" + steps + ")", x.turn(steps), angle);
        check.same("angle() behind turn(" + steps + ")", x.angle(), angle);
        check.same("trueRounds() behind turn(" + steps + ")", x.trueRounds(), rounds);
    }

    private static void angleAndRounds() {
        Ringtrack x = Rings.disc(2, 0);
        check.same("angle() at first", x.angle(), 0);
        check.same("trueRounds() at first", x.trueRounds(), 0);
        turned(x, 0, 0, 0);
        turned(x, 63, 63, 0);
        turned(x, 1, 0, 1);
        turned(x, -1, 63, 0);
        turned(x, -63, 0, 0);
        turned(x, -1, 63, -1);
        turned(x, 1, 0, 0);
        turned(x, 64, 0, 1);
        turned(x, -128, 0, -1);
        turned(x, 500, 52, 6);
        turned(x, -500, 0, -1);
        turned(x, -500, 12, -9);
    }

    private static void turnRefuses() {
        Ringtrack x = Rings.disc(2, 0);
        check.bad("turn(501)", () -> x.turn(501));
        check.bad("turn(-501)", () -> x.turn(-501));
        check.bad("turn(least)", () -> x.turn(Integer.MIN_VALUE));
        check.same("angle()", x.angle(), 0);
        check.missing("a refused turning is not read", () -> x.wayAt(0));
    }

    private static int seenAtPlace(Ringtrack x, int place) {
        x.turn(16 * place);
        int word = x.seen(0);
        x.turn(-16 * place);
        return word;
    }

    private static void seenRow(Ringtrack x, String when, int... due) {
        for (int k = 0; k < due.length; k++) {
            check.same("seen(0) at the place " + k + " " + when, seenAtPlace(x, k), due[k]);
        }
    }

    private static void addSpeck() {
        Ringtrack x = Rings.disc(2, 0);
        seenRow(x, "when clean", 0, 1, 3, 2);
        check.same("addSpeck(2, 1, 0)", x.addSpeck(2, 1, 0), 1);
        seenRow(x, "with a speck", 0, 1, 1, 2);
        check.same("seen(1) of the speck", x.seen(1), 1);
        check.same("addSpeck(2, 0, 0)", x.addSpeck(2, 0, 0), 2);
        seenRow(x, "with two specks", 0, 1, 0, 2);
        check.same("addSpeck(2, 0, 0) again", x.addSpeck(2, 0, 0), 3);
        check.same("addSpeck(0, 0, 9)", x.addSpeck(0, 0, 9), 4);
        check.same("addSpeck(3, 1, 9)", x.addSpeck(3, 1, 9), 5);
        seenRow(x, "with five specks", 0, 1, 0, 0);
    }

    private static void addSpeckRefuses() {
        Ringtrack x = Rings.disc(2, 0);
        for (int k = 1; k <= 6; k++) {
            check.same("addSpeck(1, 1, 0)", x.addSpeck(1, 1, 0), k);
            check.bad("addSpeck(4, 0, 0)", () -> x.addSpeck(4, 0, 0));
            check.bad("addSpeck(-1, 0, 0)", () -> x.addSpeck(-1, 0, 0));
            check.bad("addSpeck(0, 2, 0)", () -> x.addSpeck(0, 2, 0));
            check.bad("addSpeck(0, -1, 0)", () -> x.addSpeck(0, -1, 0));
            check.bad("addSpeck(0, 0, 10)", () -> x.addSpeck(0, 0, 10));
            check.bad("addSpeck(0, 0, -1)", () -> x.addSpeck(0, 0, -1));
        }
        check.full("addSpeck(3, 1, 9) at 6", () -> x.addSpeck(3, 1, 9));
        x.turn(64);
        seenRow(x, "with 6 specks, a turn on", 0, 1, 3, 2);
        x.turn(16);
        check.same("seen(0) at a place of specks that creep by 0", x.seen(0), 1);
        check.same("clean()", x.clean(), 6);
    }

    private static void specksCreep() {
        Ringtrack x = Rings.disc(2, 0);
        x.addSpeck(2, 1, 1);
        x.turn(63);
        x.turn(-63);
        seenRow(x, "before the end of a turn", 0, 1, 1, 2);
        x.turn(63);
        x.turn(1);
        seenRow(x, "when it crept", 0, 1, 3, 0);
        x.turn(-64);
        seenRow(x, "behind a turn back", 0, 1, 3, 0);
        x.turn(-1);
        x.turn(1);
        x.turn(64);
        x.turn(64);
        seenRow(x, "when it crept over the end of the disc", 0, 1, 1, 2);
        x.clean();
        x.addSpeck(2, 1, 9);
        x.addSpeck(1, 0, 0);
        x.turn(320);
        seenRow(x, "when it crept five times by 9", 0, 0, 3, 0);
        x.power(false);
        x.turn(192);
        seenRow(x, "when it crept without power", 0, 0, 1, 2);
    }

    private static void eachSpeckCreepsByItsOwn() {
        Ringtrack x = Rings.disc(2, 0);
        x.addSpeck(0, 1, 3);
        x.addSpeck(0, 0, 1);
        x.addSpeck(0, 0, 4);
        x.addSpeck(1, 1, 0);
        x.addSpeck(1, 1, 8);
        x.addSpeck(0, 1, 2);
        seenRow(x, "with 6 specks that hide nothing", 0, 1, 3, 2);
        x.turn(64);
        seenRow(x, "with 6 specks that crept", 0, 0, 1, 0);
    }

    private static void clean() {
        Ringtrack x = Rings.disc(2, 0);
        check.same("clean() of nothing", x.clean(), 0);
        x.addSpeck(1, 0, 0);
        x.addSpeck(2, 0, 0);
        x.stick(0, 1, 1);
        check.same("clean()", x.clean(), 2);
        check.same("clean() again", x.clean(), 0);
        seenRow(x, "behind clean(), with sticking", 2, 3, 3, 2);
        check.same("addSpeck behind clean()", x.addSpeck(3, 1, 0), 1);
        x.stick(0, 1, -1);
        seenRow(x, "with a new speck", 0, 1, 3, 0);
    }

    private static void stick() {
        Ringtrack x = Rings.disc(2, 0);
        x.addSpeck(2, 0, 0);
        check.same("stick(0, 0, 1)", x.stick(0, 0, 1), -1);
        seenRow(x, "with the track 0 as 1, over a speck", 1, 1, 3, 3);
        check.same("seen(1) of a head that does not stick", x.seen(1), 2);
        check.same("stick(0, 1, 0)", x.stick(0, 1, 0), -1);
        seenRow(x, "with two tracks that stick", 1, 1, 1, 1);
        check.same("stick(0, 0, 0)", x.stick(0, 0, 0), 1);
        check.same("stick(0, 0, 0) again", x.stick(0, 0, 0), 0);
        check.same("stick(1, 1, 1)", x.stick(1, 1, 1), -1);
        x.clean();
        check.same("seen(0)", x.seen(0), 0);
        check.same("seen(1)", x.seen(1), 3);
        check.same("stick(0, 0, -1)", x.stick(0, 0, -1), 0);
        check.same("stick(0, 0, -1) again", x.stick(0, 0, -1), -1);
        seenRow(x, "with the track 1 as 0", 0, 1, 1, 0);
        check.same("stick(0, 1, 1)", x.stick(0, 1, 1), 0);
        check.same("stick(0, 1, -1)", x.stick(0, 1, -1), 1);
        check.same("stick(1, 1, -1)", x.stick(1, 1, -1), 1);
    }

    private static void stickRefuses() {
        Ringtrack x = Rings.disc(2, 0);
        check.bad("stick(2, 0, 0)", () -> x.stick(2, 0, 0));
        check.bad("stick(-1, 0, 0)", () -> x.stick(-1, 0, 0));
        check.bad("stick(0, 2, 0)", () -> x.stick(0, 2, 0));
        check.bad("stick(0, -1, 0)", () -> x.stick(0, -1, 0));
        check.bad("stick(0, 0, 2)", () -> x.stick(0, 0, 2));
        check.bad("stick(0, 0, -2)", () -> x.stick(0, 0, -2));
        check.bad("seen(2)", () -> x.seen(2));
        check.bad("seen(-1)", () -> x.seen(-1));
        check.bad("estimate(2)", () -> x.estimate(2));
        check.bad("estimate(-1)", () -> x.estimate(-1));
    }

    /** The angle is turned to from 0, and the words at the two places are those of the heads. */
    private static void heads(int off, int angle, int first, int second) {
        Ringtrack x = Rings.disc(4, off);
        x.turn(angle);
        check.same("seen(0) at " + angle, x.seen(0), first ^ first / 2);
        check.same("seen(1) at " + angle, x.seen(1), second ^ second / 2);
        check.same("estimate(0) at " + angle, x.estimate(0), 16 * first + 8);
        check.same("estimate(1) at " + angle, x.estimate(1), (16 * second + 8 + 128) % 256);
    }

    private static void seenOffCentre() {
        heads(0, 0, 0, 8);
        heads(0, 127, 7, 15);
        heads(0, 128, 8, 0);
        heads(0, 200, 12, 4);
        heads(0, 255, 15, 7);
        heads(40, 0, 0, 8);
        heads(40, 41, 4, 9);
        heads(40, 64, 6, 9);
        heads(40, 87, 7, 11);
        heads(40, 128, 8, 0);
        heads(40, 130, 8, 0);
        heads(40, 169, 9, 4);
        heads(40, 192, 9, 6);
        heads(40, 224, 12, 7);
        heads(40, 255, 15, 7);
        heads(20, 64, 5, 10);
        heads(22, 24, 2, 9);
        heads(22, 152, 9, 2);
    }

    private static void estimate() {
        Ringtrack x = Rings.typedDisc(0, Rings.SIX);
        check.same("estimate(0)", x.estimate(0), 8);
        check.same("estimate(1)", x.estimate(1), 8);
        x.stick(0, 1, 1);
        check.same("seen(0)", x.seen(0), 2);
        check.missing("estimate(0) of a word that the code has not", () -> x.estimate(0));
        check.same("estimate(1) of the other head", x.estimate(1), 8);
        x.stick(1, 1, 0);
        check.same("seen(1)", x.seen(1), 5);
        check.missing("estimate(1)", () -> x.estimate(1));
        x.turn(20);
        check.same("estimate(0) at 20", x.estimate(0), 40);
        check.same("estimate(1) at 20", x.estimate(1), 40);
        x.power(false);
        check.same("estimate(0) without power", x.estimate(0), 40);
    }
}
