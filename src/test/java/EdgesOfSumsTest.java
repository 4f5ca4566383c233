import java.util.function.Supplier;

/** The promises 49 to 51, sentence by sentence, at their edges. */
public final class EdgesOfSumsTest {

    private static final Check check = new Check("edges of sums");
    private static final Supplier<Ringtrack> SQUARE = () -> Rings.disc(2, 0);

    public static void main(String[] args) {
        checksum();
        checksumOfEachPart();
        badShare();
        soundCodes();
        soundDiscs();
        check.end();
    }

    // ---- promise 49

    private static final String SUM = "Returns 7 at first, then for each typed word 31 times itself plus it; then, with a"
            + " disc, 31 times itself plus the true angle, then plus the true rounds, what is told, told rounds, the"
            + " stops, the sum of the page, likewise; then for each frame under way 31 times itself plus it.";

    private static long sum(long... parts) {
        long sum = 7;
        for (long part : parts) {
            sum = 31 * sum + part;
        }
        return sum;
    }

    private static void checksum() {
        check.says(49, SUM);
        Ringtrack x = new Ringtrack();
        check.same("checksum() of a new object", x.checksum(), 7L);
        x.type(0);
        check.same("checksum() of 0", x.checksum(), 217L);
        x.type(255);
        check.same("checksum() of 0, 255", x.checksum(), 6982L);
        x.wipe();
        check.same("checksum() of no words", x.checksum(), 7L);
        x.reflected(2);
        check.same("checksum() without a disc", x.checksum(), 7L);
        x.setDisc(0, 0);
        check.same("checksum() of a new disc", x.checksum(), sum(0, 0, 0, 0, 0, 0));
        long[] parts = new long[79];
        for (int k = 0; k < 64; k++) {
            x.type(k + 100);
            parts[k] = k + 100;
        }
        x.turn(0);
        parts[66] = 8;
        for (int k = 70; k < 79; k++) {
            x.send(9);
            parts[k] = 518;
        }
        check.same("checksum() of 64 words and 9 frames", x.checksum(), sum(parts));
    }

    /** Each part is another number: 51, -8 true rounds, 56, -1 told rounds, 2 stops, and -16. */
    private static void checksumOfEachPart() {
        check.says(49, SUM);
        Ringtrack x = SQUARE.get();
        x.addSpeck(1, 0, 1);
        x.bench();
        check.same("closing()", x.closing(), -16);
        x.clean();
        x.turn(-1);
        x.setLimit(8);
        x.turn(-30);
        x.start();
        x.turn(-500);
        x.turn(18);
        x.power(false);
        x.setLimit(40);
        check.same("stops()", x.stops(), 2);
        check.same("checksum()", x.checksum(), sum(x.angle(), x.trueRounds(), x.told(), x.toldRounds(), 2, -16));
        check.same("angle()", x.angle(), 63);
        check.same("trueRounds()", x.trueRounds(), -9);
        check.same("told()", x.told(), 40);
        check.same("toldRounds()", x.toldRounds(), -1);
        int first = x.send(2);
        int second = x.send(1);
        check.same("checksum() with two frames", x.checksum(), sum(63, -9, 40, -1, 2, -16, first, second));
        x.flip(1, 15);
        check.same("checksum() with a bit turned", x.checksum(),
                sum(63, -9, 40, -1, 2, -16, first, second ^ 32768));
        x.tick(1);
        check.same("checksum() of one that arrived", x.checksum(), sum(63, -9, 40, -1, 2, -16, first));
        x.lose(1);
        check.same("checksum() of one that is lost", x.checksum(), sum(63, -9, 40, -1, 2, -16));
        x.type(9);
        check.same("checksum() of a word before the disc", x.checksum(), sum(9, 63, -9, 40, -1, 2, -16));
    }

    // ---- promise 50

    private static void badShare() {
        check.says(50, "Returns their number divided by that of all, both converted to float.");
        Ringtrack x = SQUARE.get();
        float[] due = {0.0f, 1.0f / 2.0f, 1.0f / 3.0f, 2.0f / 4.0f, 3.0f / 5.0f, 4.0f / 6.0f, 4.0f / 7.0f};
        int[] bits = {-1, 0, -1, 1, 2, 3, -1};
        for (int k = 0; k < due.length; k++) {
            x.send(1);
            if (bits[k] >= 0) {
                x.flip(0, bits[k]);
            }
            x.tick(1);
            x.take();
            check.same("badShare() of " + (k + 1), x.badShare(), due[k]);
        }
        Ringtrack bad = SQUARE.get();
        bad.send(1);
        bad.flip(0, 0);
        bad.tick(1);
        bad.take();
        check.same("badShare() of a bad one", bad.badShare(), 1.0f);
        check.says(50, "Throws `NoSuchElementException` if none was taken");
        check.missing("badShare() of a new object", () -> new Ringtrack().badShare());
        Ringtrack y = SQUARE.get();
        y.send(1);
        check.missing("badShare() of one under way", () -> y.badShare());
        y.tick(1);
        check.missing("badShare() of one that arrived", () -> y.badShare());
        y.take();
        check.same("badShare() of one that is taken", y.badShare(), 0.0f);
    }

    // ---- promise 51

    private static final String SOUND = "Tells whether of each code each word and the next one differ by one bit; what is"
            + " told is within the turn;";

    private static void isSound(String when, Ringtrack x) {
        check.same("isSound() " + when, x.isSound(), true);
    }

    private static void soundCodes() {
        check.says(51, SOUND);
        Ringtrack x = new Ringtrack();
        isSound("of a new object", x);
        Rings.typeAll(x, 1, 1, 2);
        isSound("with typed words that are no ring", x);
        x.wipe();
        Rings.typeAll(x, Rings.SIX);
        x.ring();
        isSound("with a code, without a disc", x);
        x.reflected(2);
        x.reflected(5);
        x.reflected(6);
        isSound("with 4 codes", x);
        for (int code = 0; code < 4; code++) {
            x.setDisc(code, 40);
            isSound("with a disc of the code " + code, x);
            x.turn(-1);
            isSound("with the last place told, of the code " + code, x);
        }
        isSound("of 64 high words", sixtyFourHigh());
    }

    private static Ringtrack sixtyFourHigh() {
        Ringtrack x = new Ringtrack();
        for (int k = 0; k < 64; k++) {
            x.type(4 * (k ^ k >> 1) + 3);
        }
        x.ring();
        x.setDisc(0, 33);
        return x;
    }

    private static void soundDiscs() {
        check.says(51, "teeth are less than their gears have; and with specks, sticking and being off aside, both heads"
                + " tell the");
        check.says(51, "middle of each place together.");
        check.says(51, "Returns true if so.");
        Ringtrack x = Rings.typedDisc(40, Rings.SIX);
        for (int place = 0; place < 6; place++) {
            x.addSpeck(place, place % 3, place);
        }
        isSound("with 6 specks", x);
        for (int track = 0; track < 3; track++) {
            x.stick(0, track, 1);
            x.stick(1, track, 0);
        }
        isSound("with all tracks sticking", x);
        x.setTolerance(16);
        x.setLimit(8);
        x.turn(-500);
        check.same("state()", x.state(), 's');
        isSound("when stopped", x);
        x.power(false);
        x.turn(-499);
        isSound("without power", x);
        x.addGear(2);
        x.addGear(16);
        x.addGear(3);
        isSound("with gears, below 0 rounds", x);
        for (int k = 0; k < 7; k++) {
            x.slip(0, -5);
            x.slip(1, 5);
            x.slip(2, -4);
            isSound("with gears that slipped", x);
        }
        x.bench();
        isSound("with a page", x);
        check.same("angle(): nothing is turned", x.angle(), 57);
        check.same("clean(): the specks still lie there", x.clean(), 6);
        check.same("stick(0, 2, -1): it still sticks", x.stick(0, 2, -1), 1);
    }
}
