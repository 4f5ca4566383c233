/** Promises 34 to 37: gears. */
public final class GearsTest {

    private static final Check check = new Check("gears");

    public static void main(String[] args) {
        withoutDisc();
        addGear();
        tooth();
        slip();
        recover();
        startTellsRounds();
        check.end();
    }

    private static void withoutDisc() {
        Ringtrack x = Rings.ofReflected(2);
        check.unsupported("addGear(1)", () -> x.addGear(1));
        check.unsupported("tooth(0)", () -> x.tooth(0));
        check.unsupported("slip(0, 9)", () -> x.slip(0, 9));
        check.unsupported("recover()", () -> x.recover());
    }

    private static void addGear() {
        Ringtrack x = Rings.disc(2, 0);
        check.bad("addGear(1)", () -> x.addGear(1));
        check.bad("addGear(17)", () -> x.addGear(17));
        check.same("addGear(2)", x.addGear(2), 0);
        check.same("addGear(16)", x.addGear(16), 1);
        check.same("addGear(2) again", x.addGear(2), 2);
        check.full("addGear(2) at 3", () -> x.addGear(2));
        check.bad("addGear(17) at 3", () -> x.addGear(17));
        x.setDisc(0, 0);
        check.same("addGear(3) on a new disc", x.addGear(3), 0);
    }

    private static void tooth() {
        Ringtrack x = Rings.disc(2, 0);
        check.unknown("tooth(0) without gears", () -> x.tooth(0));
        x.turn(320);
        x.addGear(3);
        x.addGear(5);
        check.same("tooth(0) at 5", x.tooth(0), 2);
        check.same("tooth(1) at 5", x.tooth(1), 0);
        check.unknown("tooth(2)", () -> x.tooth(2));
        check.unknown("tooth(-1)", () -> x.tooth(-1));
        x.turn(-384);
        check.same("trueRounds()", x.trueRounds(), -1);
        check.same("tooth(0) at -1", x.tooth(0), 2);
        check.same("tooth(1) at -1", x.tooth(1), 4);
        x.power(false);
        x.turn(64);
        check.same("tooth(1) without power", x.tooth(1), 0);
    }

    private static void slip() {
        Ringtrack x = Rings.disc(2, 0);
        check.unknown("slip(0, 6) without gears", () -> x.slip(0, 6));
        x.addGear(7);
        x.addGear(3);
        check.same("slip(0, 5)", x.slip(0, 5), 5);
        check.same("slip(0, 5) more", x.slip(0, 5), 3);
        check.same("slip(0, 0)", x.slip(0, 0), 3);
        check.same("tooth(0)", x.tooth(0), 3);
        check.same("tooth(1)", x.tooth(1), 0);
        check.same("slip(1, -5)", x.slip(1, -5), 1);
        check.bad("slip(0, 6)", () -> x.slip(0, 6));
        check.bad("slip(0, -6)", () -> x.slip(0, -6));
        check.unknown("slip(2, 6)", () -> x.slip(2, 6));
        check.unknown("slip(-1, 0)", () -> x.slip(-1, 0));
        x.turn(64);
        check.same("tooth(0) a round on", x.tooth(0), 4);
        check.same("tooth(1) a round on", x.tooth(1), 2);
        x.setDisc(0, 0);
        x.addGear(7);
        check.same("tooth(0) of a new gear", x.tooth(0), 0);
    }

    private static void recover() {
        Ringtrack x = Rings.disc(2, 0);
        check.missing("recover() without gears", () -> x.recover());
        x.turn(448);
        x.turn(320);
        check.same("trueRounds()", x.trueRounds(), 12);
        x.addGear(5);
        check.same("recover() of 5", x.recover(), 2);
        x.addGear(7);
        check.same("recover() of 5, 7", x.recover(), 12);
        x.addGear(3);
        check.same("recover() of 5, 7, 3", x.recover(), 12);
        x.slip(2, 1);
        check.same("recover() with a slip", x.recover(), 82);
        x.turn(-384);
        x.turn(-448);
        check.same("recover() below 0", x.recover(), 69);
        Ringtrack y = Rings.disc(2, 0);
        y.addGear(16);
        y.addGear(15);
        y.addGear(13);
        y.turn(-1);
        check.same("recover() of the most", y.recover(), 3119);
        Ringtrack z = Rings.disc(2, 0);
        z.addGear(4);
        z.addGear(6);
        z.slip(1, 1);
        check.missing("recover() of gears that tell none", () -> z.recover());
        z.slip(0, 3);
        check.same("recover() of gears that tell again", z.recover(), 7);
        Ringtrack w = Rings.disc(2, 0);
        w.addGear(5);
        w.addGear(4);
        w.addGear(6);
        w.slip(2, 1);
        check.missing("recover() where the last ones disagree", () -> w.recover());
    }

    private static void startTellsRounds() {
        Ringtrack x = Rings.disc(2, 0);
        x.addGear(5);
        x.addGear(7);
        x.power(false);
        x.turn(480);
        x.turn(480);
        check.same("toldRounds() without power", x.toldRounds(), 0);
        x.power(true);
        check.same("toldRounds() with power", x.toldRounds(), 15);
        x.slip(0, 1);
        check.same("toldRounds() behind a slip", x.toldRounds(), 15);
        x.start();
        check.same("toldRounds() behind a slip and a start", x.toldRounds(), 1);
        x.turn(16);
        check.same("toldRounds() of a turning", x.toldRounds(), 1);
    }
}
