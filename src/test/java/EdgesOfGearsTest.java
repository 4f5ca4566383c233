import java.util.function.Supplier;

/** The paragraph "Gears" and the promises 34 to 37, sentence by sentence, at their edges. */
public final class EdgesOfGearsTest {

    private static final Check check = new Check("edges of gears");
    private static final Ranges ranges = new Ranges(check);
    private static final Supplier<Ringtrack> SQUARE = () -> Rings.disc(2, 0);
    private static final Supplier<Ringtrack> NO_DISC = () -> Rings.ofReflected(2);

    public static void main(String[] args) {
        threeGears();
        teethModulo();
        slipsAddUp();
        leastNumber();
        mostNumber();
        noNumber();
        addGear();
        tooth();
        slip();
        recover();
        check.end();
    }

    /** A square with these gears. */
    private static Ringtrack geared(int... teeth) {
        Ringtrack x = SQUARE.get();
        for (int one : teeth) {
            x.addGear(one);
        }
        return x;
    }

    /** Turns until there are so many true rounds. */
    private static void go(Ringtrack x, int rounds) {
        for (int k = 0; k < 500 && x.trueRounds() < rounds; k++) {
            x.turn(64 * Math.min(7, rounds - x.trueRounds()));
        }
        for (int k = 0; k < 500 && x.trueRounds() > rounds; k++) {
            x.turn(-64 * Math.min(7, x.trueRounds() - rounds));
        }
        check.same("trueRounds()", x.trueRounds(), rounds);
    }

    // ---- Terms: Gears

    private static final String GEARS = "At most 3 are numbered from 0, each with 2 to 16 teeth; its tooth is the true"
            + " rounds and its slip, modulo its teeth, from 0 on.";

    private static void threeGears() {
        check.says(GEARS);
        Ringtrack x = SQUARE.get();
        check.unknown("tooth(0) of no gear", () -> x.tooth(0));
        check.same("addGear(2)", x.addGear(2), 0);
        check.unknown("tooth(1) of one gear", () -> x.tooth(1));
        check.same("addGear(16)", x.addGear(16), 1);
        check.same("addGear(3)", x.addGear(3), 2);
        check.unknown("tooth(3) of three gears", () -> x.tooth(3));
        check.full("addGear(4) at 3", () -> x.addGear(4));
        go(x, 17);
        check.same("tooth(0) of 2 at 17", x.tooth(0), 1);
        check.same("tooth(1) of 16 at 17", x.tooth(1), 1);
        check.same("tooth(2) of 3 at 17", x.tooth(2), 2);
        ranges.within("addGear", SQUARE, 2, 16, Ringtrack::addGear, n -> 0);
        ranges.outOfRange("addGear", SQUARE, 2, 16, Ringtrack::addGear);
    }

    private static void teethModulo() {
        check.says(GEARS);
        Ringtrack x = geared(2, 5, 16);
        int[][] due = {
            {0, 0, 0, 0}, {1, 1, 1, 1}, {2, 0, 2, 2}, {5, 1, 0, 5}, {15, 1, 0, 15}, {16, 0, 1, 0},
            {-1, 1, 4, 15}, {-2, 0, 3, 14}, {-5, 1, 0, 11}, {-16, 0, 4, 0}, {-17, 1, 3, 15},
        };
        for (int[] row : due) {
            go(x, row[0]);
            for (int gear = 0; gear < 3; gear++) {
                check.same("tooth(" + gear + ") at " + row[0], x.tooth(gear), row[gear + 1]);
            }
        }
        Ringtrack later = SQUARE.get();
        go(later, 7);
        later.addGear(5);
        check.same("tooth(0) of a gear that is added at 7", later.tooth(0), 2);
        later.turn(-64);
        check.same("tooth(0) at 6", later.tooth(0), 1);
        later.turn(63);
        check.same("tooth(0) before the end of a turn", later.tooth(0), 1);
        later.turn(1);
        check.same("tooth(0) behind the end of a turn", later.tooth(0), 2);
    }

    private static void slipsAddUp() {
        check.says(GEARS);
        Ringtrack x = geared(2, 7);
        int[][] due = {{5, 5}, {5, 3}, {-5, 5}, {-5, 0}, {-5, 2}, {-5, 4}, {0, 4}, {1, 5}};
        for (int[] row : due) {
            check.same("slip(1, " + row[0] + ")", x.slip(1, row[0]), row[1]);
            check.same("tooth(1) behind that", x.tooth(1), row[1]);
            check.same("tooth(0), which does not slip", x.tooth(0), 0);
        }
        go(x, 3);
        check.same("tooth(1) three rounds on", x.tooth(1), 1);
        go(x, -3);
        check.same("tooth(1) three rounds back", x.tooth(1), 2);
        Ringtrack y = geared(2);
        for (int k = 1; k <= 400; k++) {
            check.same("slip(0, -5) as number " + k, y.slip(0, -5), k % 2);
        }
        check.same("trueRounds(): a slip is none", y.trueRounds(), 0);
    }

    private static final String TELL = "Gears tell rounds if there is a number from 0 to 4095 that leaves all teeth, each"
            + " by its own: the least one.";

    private static void leastNumber() {
        check.says(TELL);
        Ringtrack x = geared(3);
        check.same("recover() of 3 at 0", x.recover(), 0);
        go(x, 2);
        check.same("recover() of 3 at 2", x.recover(), 2);
        go(x, 3);
        check.same("recover() of 3 at 3", x.recover(), 0);
        go(x, -1);
        check.same("recover() of 3 at -1", x.recover(), 2);
        x.addGear(4);
        check.same("recover() of 3, 4 at -1", x.recover(), 11);
        x.addGear(5);
        check.same("recover() of 3, 4, 5 at -1", x.recover(), 59);
        x.slip(2, 1);
        check.same("recover() of the teeth 2, 3, 0", x.recover(), 35);
        Ringtrack y = geared(4, 4, 4);
        go(y, 7);
        check.same("recover() of 4, 4, 4 at 7", y.recover(), 3);
        Ringtrack z = geared(4, 6);
        go(z, 11);
        check.same("recover() of 4, 6 at 11", z.recover(), 11);
        go(z, 12);
        check.same("recover() of 4, 6 at 12", z.recover(), 0);
    }

    /** 16 times 15 times 13 is 3120, and no other three gears tell more. */
    private static void mostNumber() {
        check.says(TELL);
        Ringtrack x = geared(16, 15, 13);
        go(x, -1);
        check.same("recover() at -1", x.recover(), 3119);
        go(x, -2);
        check.same("recover() at -2", x.recover(), 3118);
        Ringtrack y = geared(13, 15, 16);
        y.turn(-1);
        check.same("recover() at -1, the smallest one first", y.recover(), 3119);
        y.slip(0, 1);
        check.same("recover() of the teeth 0, 14, 15", y.recover(), 2639);
    }

    private static void noNumber() {
        check.says(TELL);
        check.missing("recover() without gears", () -> SQUARE.get().recover());
        Ringtrack x = geared(2, 4);
        x.slip(0, 1);
        check.missing("recover() of 2, 4 at the teeth 1, 0", () -> x.recover());
        x.slip(1, 1);
        check.same("recover() of 2, 4 at the teeth 1, 1", x.recover(), 1);
        Ringtrack y = geared(5, 6, 9);
        y.slip(2, 1);
        check.missing("recover() of 6, 9 at the teeth 0, 1", () -> y.recover());
        y.slip(2, 2);
        check.same("recover() of 5, 6, 9 at the teeth 0, 0, 3", y.recover(), 30);
        Ringtrack z = geared(6, 7, 9);
        z.slip(0, 1);
        check.missing("recover() of the first one and the last one", () -> z.recover());
        Ringtrack w = geared(16, 16);
        w.slip(1, -1);
        check.missing("recover() of like gears that differ", () -> w.recover());
    }

    // ---- promises 34 to 37

    private static void addGear() {
        check.says(34, "- `teeth`: the teeth");
        ranges.within("addGear", SQUARE, 2, 16, Ringtrack::addGear, n -> 0);
        check.says(34, "Returns its number.");
        Ringtrack x = SQUARE.get();
        for (int k = 0; k < 3; k++) {
            check.same("addGear(9)", x.addGear(9), k);
        }
        check.says(34, "Adds a gear, without slip.");
        x.slip(0, 3);
        check.same("tooth(2)", x.tooth(2), 0);
        x.setDisc(0, 0);
        check.same("addGear(9) on a new disc", x.addGear(9), 0);
        check.same("tooth(0) of a new disc", x.tooth(0), 0);
        check.says(34, "Throws `UnsupportedOperationException` if there is no disc");
        check.unsupported("addGear(2)", () -> NO_DISC.get().addGear(2));
        check.unsupported("addGear(1)", () -> NO_DISC.get().addGear(1));
        check.says(34, "Throws `IllegalArgumentException` if a number is out of range");
        ranges.outOfRange("addGear", SQUARE, 2, 16, Ringtrack::addGear);
        ranges.outOfRange("addGear at 2", () -> geared(2, 2), 2, 16, Ringtrack::addGear);
        ranges.outOfRange("addGear at 3", () -> geared(2, 2, 2), 2, 16, Ringtrack::addGear);
        check.says(34, "Throws `IllegalStateException` if there are 3");
        check.full("addGear(2) at 3", () -> geared(2, 2, 2).addGear(2));
        check.full("addGear(16) at 3", () -> geared(2, 2, 2).addGear(16));
    }

    private static void tooth() {
        check.says(35, "Returns the tooth.");
        Ringtrack x = geared(3, 4, 5);
        go(x, 59);
        ranges.within("tooth", () -> x, 0, 2, Ringtrack::tooth, n -> n + 2);
        x.power(false);
        go(x, 60);
        ranges.within("tooth without power", () -> x, 0, 2, Ringtrack::tooth, n -> 0);
        check.says(35, "Throws `UnsupportedOperationException` if there is no disc");
        check.unsupported("tooth(0)", () -> NO_DISC.get().tooth(0));
        check.says(35, "Throws `IndexOutOfBoundsException` if there is no such gear");
        ranges.noSuchNumber("tooth of none", SQUARE, 0, Ringtrack::tooth);
        ranges.noSuchNumber("tooth of one", () -> geared(2), 1, Ringtrack::tooth);
        ranges.noSuchNumber("tooth of three", () -> geared(2, 2, 2), 3, Ringtrack::tooth);
    }

    private static void slip() {
        check.says(36, "- `by`: -5 to 5");
        ranges.within("slip(0, .)", () -> geared(16), -5, 5, (x, n) -> x.slip(0, n), n -> n < 0 ? 16 + n : n);
        check.says(36, "Lets a gear slip, by so much more.");
        Ringtrack x = geared(16, 16);
        x.slip(0, 5);
        x.slip(0, 4);
        check.same("tooth(0) behind 5 and 4", x.tooth(0), 9);
        check.same("tooth(1)", x.tooth(1), 0);
        check.says(36, "Returns its tooth.");
        check.same("slip(0, 0)", x.slip(0, 0), 9);
        x.turn(64);
        check.same("slip(0, -2) a round on", x.slip(0, -2), 8);
        check.same("slip(1, -2) a round on", x.slip(1, -2), 15);
        check.says(36, "Throws `UnsupportedOperationException` if there is no disc");
        check.unsupported("slip(0, 0)", () -> NO_DISC.get().slip(0, 0));
        check.unsupported("slip(-1, 6)", () -> NO_DISC.get().slip(-1, 6));
        check.says(36, "Throws `IndexOutOfBoundsException` if there is no such gear");
        ranges.noSuchNumber("slip(., 0) of none", SQUARE, 0, (y, n) -> y.slip(n, 0));
        ranges.noSuchNumber("slip(., 0) of two", () -> geared(2, 2), 2, (y, n) -> y.slip(n, 0));
        ranges.noSuchNumber("slip(., 6) of three", () -> geared(2, 2, 2), 3, (y, n) -> y.slip(n, 6));
        check.says(36, "Throws `IllegalArgumentException` if a number is out of range");
        ranges.outOfRange("slip(0, .)", () -> geared(2), -5, 5, (y, n) -> y.slip(0, n));
        ranges.outOfRange("slip(2, .)", () -> geared(2, 2, 2), -5, 5, (y, n) -> y.slip(2, n));
    }

    private static void recover() {
        check.says(37, "Returns their number.");
        Ringtrack x = geared(7, 8);
        go(x, 55);
        check.same("recover() at 55", x.recover(), 55);
        go(x, 56);
        check.same("recover() at 56", x.recover(), 0);
        x.power(false);
        go(x, 57);
        check.same("recover() without power", x.recover(), 1);
        check.says(37, "Throws `UnsupportedOperationException` if there is no disc");
        check.unsupported("recover()", () -> NO_DISC.get().recover());
        check.says(37, "Throws `NoSuchElementException` if there are no gears, or they tell none");
        check.missing("recover() without gears", () -> SQUARE.get().recover());
        Ringtrack y = geared(2, 2);
        y.slip(0, 1);
        check.missing("recover() of gears that tell none", () -> y.recover());
        y.setDisc(0, 0);
        check.missing("recover() of a new disc", () -> y.recover());
    }
}
