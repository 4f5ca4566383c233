/** Promises 49 and 51: the checksum, and whether the object is sound. */
public final class SumsTest {

    private static final Check check = new Check("sums");

    public static void main(String[] args) {
        checksumWithoutDisc();
        checksumWithDisc();
        checksumWraps();
        isSound();
        check.end();
    }

    private static long sum(long... parts) {
        long sum = 7;
        for (long part : parts) {
            sum = 31 * sum + part;
        }
        return sum;
    }

    private static void checksumWithoutDisc() {
        Ringtrack x = new Ringtrack();
        check.same("checksum()", x.checksum(), sum());
        x.type(3);
        x.type(200);
        check.same("checksum() of two typed", x.checksum(), sum(3, 200));
        x.reflected(2);
        check.same("checksum() with a code", x.checksum(), sum(3, 200));
    }

    private static void checksumWithDisc() {
        Ringtrack x = Rings.disc(2, 0);
        check.same("checksum() of a new disc", x.checksum(), sum(0, 0, 0, 0, 0, 0));
        x.type(5);
        x.stick(0, 0, 1);
        x.stick(0, 1, 1);
        x.bench();
        x.clean();
        x.stick(0, 0, -1);
        x.stick(0, 1, -1);
        check.same("closing()", x.closing(), 16);
        x.turn(-3);
        x.setLimit(8);
        x.turn(-40);
        x.turn(-41);
        check.same("checksum()", x.checksum(), sum(5, 44, -2, 56, -1, 1, 16));
        int first = x.send(3);
        int second = x.send(2);
        x.flip(0, 15);
        check.same("checksum() with frames", x.checksum(),
                sum(5, 44, -2, 56, -1, 1, 16, first ^ 32768, second));
        x.tick(2);
        check.same("checksum() with one frame", x.checksum(), sum(5, 44, -2, 56, -1, 1, 16, first ^ 32768));
        x.setDisc(0, 0);
        check.same("checksum() of a new disc, behind a stop", x.checksum(), sum(5, 0, 0, 0, 0, 1, 0));
    }

    private static void checksumWraps() {
        Ringtrack x = new Ringtrack();
        long[] parts = new long[64];
        for (int k = 0; k < 64; k++) {
            x.type(255 - k);
            parts[k] = 255 - k;
        }
        check.same("checksum() of 64 typed", x.checksum(), sum(parts));
    }

    private static void isSound() {
        Ringtrack x = new Ringtrack();
        check.same("isSound() of a new object", x.isSound(), true);
        Rings.typeAll(x, 9, 9);
        check.same("isSound() of what is typed", x.isSound(), true);
        x.wipe();
        Rings.typeAll(x, Rings.UNLIKE);
        x.ring();
        x.reflected(6);
        x.setDisc(0, 40);
        check.same("isSound() with a disc", x.isSound(), true);
        x.addSpeck(1, 0, 3);
        x.stick(1, 2, 1);
        x.addGear(2);
        x.slip(0, 5);
        x.turn(-500);
        check.same("isSound() of a dirty disc", x.isSound(), true);
        check.same("seen(1)", x.seen(1), 6);
        x.power(false);
        x.setDisc(1, 13);
        x.turn(499);
        check.same("isSound() of another disc", x.isSound(), true);
        check.same("angle(): asking changes nothing", x.angle(), 499);
    }
}
