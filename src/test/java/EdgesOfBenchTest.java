import java.util.function.Supplier;

/** The paragraphs "The bench" and "Faults" and the promises 44 to 48, sentence by sentence, at their edges. */
public final class EdgesOfBenchTest {

    private static final Check check = new Check("edges of the bench");
    private static final Ranges ranges = new Ranges(check);
    private static final Supplier<Ringtrack> SQUARE = () -> Rings.disc(2, 0);
    private static final Supplier<Ringtrack> NO_DISC = () -> Rings.ofReflected(2);

    public static void main(String[] args) {
        pageOfEachPlace();
        pageWithDirt();
        pageWithoutEstimates();
        pageOfWhateverWay();
        pageAtFirst();
        eachSingleFault();
        triedWithoutDirt();
        triedFromZero();
        triedWithLimitAndToleranceOfNow();
        triedAWholeTurn();
        triedTillItIsStopped();
        escapesBeyondTheDoubt();
        bench();
        page();
        closing();
        corrected();
        escapes();
        check.end();
    }

    private static void hasPage(String when, Ringtrack x, int longest, int... due) {
        check.same("bench() " + when, x.bench(), longest);
        int sum = 0;
        for (int k = 0; k < due.length; k++) {
            check.same("page(" + k + ") " + when, x.page(k), due[k]);
            sum += due[k];
        }
        check.same("closing() " + when, x.closing(), sum);
    }

    // ---- Terms: The bench

    private static final String PAGE = "The bench writes a page: for each place of the disc, with the true angle in its"
            + " middle, that is 16 times it, and 8, with specks and sticking as they are, the way from that to what both"
            + " heads tell together, as in reading, if both have estimates, of whatever way, otherwise 0.";

    /**
     * Off by 22 the error in the middle of the place 1 is 8, of 24 times 22 divided by 64: the head 0 is at 32, the
     * place 2, the head 1 at 144, the place 9 that tells 24. In the middle of the place 0 it is 2, and both tell 8.
     */
    private static void pageOfEachPlace() {
        check.says(PAGE);
        hasPage("of a round square", SQUARE.get(), 0, 0, 0, 0, 0);
        hasPage("off by 22", Rings.disc(4, 22), 8, 0, 8, 0, 0, 0, 0, 8, 0, 0, 8, 0, 0, 0, 0, 8, 0);
        Ringtrack x = Rings.disc(4, 22);
        x.turn(100);
        x.setTolerance(16);
        x.setLimit(8);
        x.power(false);
        hasPage("off by 22, turned, stopped, without power", x, 8, 0, 8, 0, 0, 0, 0, 8, 0, 0, 8, 0, 0, 0, 0, 8, 0);
        check.same("angle(): nothing is turned", x.angle(), 100);
    }

    private static void pageWithDirt() {
        check.says(PAGE);
        Ringtrack x = SQUARE.get();
        x.stick(0, 0, 0);
        hasPage("with the track 0 of the head 0 as 0", x, 8, 0, -8, 8, 0);
        x.stick(0, 0, -1);
        x.stick(1, 0, 0);
        hasPage("with the track 0 of the head 1 as 0", x, 8, 8, 0, 0, -8);
        x.stick(1, 0, -1);
        x.addSpeck(1, 0, 1);
        hasPage("with a speck", x, 8, 0, -8, 0, -8);
        x.turn(64);
        hasPage("with a speck that crept", x, 8, 8, 0, 8, 0);
        x.clean();
        hasPage("without dirt", x, 0, 0, 0, 0, 0);
    }

    private static void pageWithoutEstimates() {
        check.says(PAGE);
        Ringtrack x = Rings.typedDisc(0, Rings.SIX);
        x.stick(0, 1, 1);
        hasPage("with no estimate of the head 0 at the place 0", x, 8, 0, 8, 0, 0, 0, -8);
        x.stick(0, 1, -1);
        x.stick(1, 1, 1);
        hasPage("with no estimate of the head 1 at the place 3", x, 8, 0, 0, -8, 0, 8, 0);
        x.stick(0, 2, 0);
        x.stick(0, 0, 1);
        x.stick(0, 1, 0);
        hasPage("with the head 0 at the place 1 at each place", x, 32, 8, 0, -16, 0, 32, 16);
    }

    /** All of a square tell 40, or both heads are a half turn apart. */
    private static void pageOfWhateverWay() {
        check.says(PAGE);
        Ringtrack x = SQUARE.get();
        x.stick(0, 0, 1);
        x.stick(0, 1, 1);
        x.setTolerance(16);
        hasPage("with the heads up to a half turn apart", x, 16, 16, 8, 0, -8);
        x.stick(1, 0, 0);
        x.stick(1, 1, 0);
        hasPage("with both at 40", x, 32, -32, 16, 0, -16);
    }

    private static void pageAtFirst() {
        check.says("A page is 0 at first for all places.");
        Ringtrack x = Rings.disc(4, 22);
        for (int k = 0; k < 16; k++) {
            check.same("page(" + k + ") at first", x.page(k), 0);
        }
        check.same("closing() at first", x.closing(), 0);
        x.bench();
        check.same("closing()", x.closing(), 32);
        x.setDisc(0, 22);
        for (int k = 0; k < 16; k++) {
            check.same("page(" + k + ") of a new disc", x.page(k), 0);
        }
        check.same("closing() of a new disc", x.closing(), 0);
    }

    // ---- Terms: Faults

    private static void escape(int due, String which, Ringtrack x, int limit, int tolerance) {
        x.setLimit(limit);
        x.setTolerance(tolerance);
        check.same("escapes() of " + which, x.escapes(), due);
    }

    /**
     * In most of these just one fault escapes, that of the head, the track, and as what it sticks. In the last one what
     * is told escapes without faults, too: off by 40, at 16 the heads tell 56 and 40, so 48 is told, trusted.
     */
    private static void eachSingleFault() {
        check.says("A single fault is that of a head a track sticks as 0, or as 1.");
        escape(1, "0, 0, as 0", Rings.disc(2, 20), 8, 16);
        escape(1, "0, 1, as 0", Rings.disc(2, 16), 16, 16);
        escape(1, "1, 0, as 1", Rings.disc(2, 40), 8, 16);
        escape(1, "1, 1, as 0", Rings.disc(2, 1), 8, 16);
        escape(1, "1, 1, as 1", Rings.disc(2, 8), 16, 32);
        escape(1, "0, 1, as 1", Rings.disc(4, 2), 24, 16);
        escape(1, "1, 0, as 0", Rings.disc(3, 1), 8, 16);
        escape(2, "0, 0, as 1 and 1, 0, as 0", Rings.typedDisc(24, Rings.SIX), 32, 48);
        escape(1, "0, 2, as 0", Rings.disc(3, 16), 24, 16);
        escape(1, "0, 3, as 0", Rings.typedDisc(20, 0, 1, 3, 7, 15, 14, 12, 8), 48, 64);
        escape(1, "1, 3, as 0", Rings.typedDisc(20, 0, 1, 3, 7, 15, 14, 12, 8), 8, 16);
        escape(0, "none", SQUARE.get(), 40, 48);
        escape(8, "each of 8 where none is needed", Rings.disc(2, 40), 40, 48);
    }

    private static final String TRIED = "It is tried on the disc without specks and other sticking, told and turned from"
            + " 0, trusted, with the limit and the tolerance of now: 16 steps forth, again and again, till a whole turn is"
            + " over or it is stopped.";

    private static void triedWithoutDirt() {
        check.says(TRIED);
        Ringtrack x = Rings.disc(2, 20);
        for (int place = 0; place < 4; place++) {
            x.addSpeck(place, place % 2, 9);
        }
        x.stick(0, 0, 1);
        x.stick(1, 1, 1);
        x.stick(1, 0, 0);
        escape(1, "a dirty disc", x, 8, 16);
        check.same("clean(): the specks still lie there", x.clean(), 4);
        check.same("stick(0, 0, -1): it still sticks", x.stick(0, 0, -1), 1);
        check.same("stick(1, 1, -1): it still sticks", x.stick(1, 1, -1), 1);
        check.same("stick(1, 0, -1): it still sticks", x.stick(1, 0, -1), 0);
        check.same("stick(0, 1, -1): it does not stick", x.stick(0, 1, -1), -1);
    }

    private static void triedFromZero() {
        check.says(TRIED);
        Ringtrack x = Rings.disc(2, 1);
        x.turn(30);
        x.turn(-1);
        int told = x.told();
        escape(1, "a turned disc", x, 8, 16);
        check.same("told() behind escapes()", x.told(), told);
        check.same("angle() behind escapes()", x.angle(), 29);
        check.same("trueRounds() behind escapes()", x.trueRounds(), 0);
        x.turn(33);
        x.turn(33);
        check.same("state()", x.state(), 's');
        escape(1, "a stopped disc", x, 8, 16);
        check.same("state() behind escapes()", x.state(), 's');
        check.same("stops() behind escapes()", x.stops(), 1);
        x.power(false);
        escape(1, "a disc without power", x, 8, 16);
        check.same("power(true)", x.power(true), false);
    }

    private static void triedWithLimitAndToleranceOfNow() {
        check.says(TRIED);
        Ringtrack x = Rings.disc(2, 1);
        escape(1, "the limit 8", x, 8, 16);
        escape(2, "the limit 24", x, 24, 16);
        escape(1, "the limit 8 again", x, 8, 16);
        Ringtrack y = Rings.disc(2, 8);
        escape(0, "the tolerance 16", y, 16, 16);
        escape(1, "the tolerance 32", y, 16, 32);
        escape(0, "the tolerance 31", y, 16, 31);
    }

    /**
     * Off by 1, with the limit 24 and the tolerance 16, the track 0 of the head 1 as 0 escapes behind the fourth
     * turning alone, at 0: told is 40, the heads tell 8 and 24, the head 1 alone is believed, and 24 is beyond 17. Off
     * by 16, with the limit 16, the track 1 of the head 1 as 0 tells 56 there, 8 away, and at 16 once more it would
     * tell 48, trusted, 32 away.
     */
    private static void triedAWholeTurn() {
        check.says(TRIED);
        escape(2, "a fault behind the last turning", Rings.disc(2, 1), 24, 16);
        escape(1, "a fault behind one turning more", Rings.disc(2, 16), 16, 16);
    }

    /**
     * Off by 8, with the limit 8, the track 0 of the head 0 as 1 tells 24 at 16, and is stopped at 32, where both
     * heads tell 40; it is not read again.
     */
    private static void triedTillItIsStopped() {
        check.says(TRIED);
        Ringtrack x = Rings.disc(2, 8);
        escape(0, "faults that are all stopped", x, 8, 16);
        check.same("stops(): they are not counted", x.stops(), 0);
    }

    /**
     * Off by 8, with the limit 8, the track 1 of the head 1 as 0 tells 56 at 16, degraded: 24 away, which is the doubt.
     * Off by 16, with the limit 16, the track 0 of the head 0 as 0 tells 0 at 16, trusted: 16 away, which is the doubt.
     */
    private static void escapesBeyondTheDoubt() {
        check.says("It escapes if behind some of these turnings, the state not being 's', the way from the true angle to"
                + " what is told is longer than the doubt.");
        escape(0, "a way of 24 degraded, off by 8", Rings.disc(2, 8), 8, 16);
        escape(1, "a way of 24 degraded, off by 7", Rings.disc(2, 7), 8, 16);
        escape(1, "a way of 16 trusted, and one of 32", Rings.disc(2, 16), 16, 16);
        escape(0, "ways of 16 trusted", SQUARE.get(), 24, 16);
        escape(1, "a way of 24 trusted, and a stop later", Rings.disc(2, 20), 8, 16);
    }

    // ---- promises 44 to 48

    private static void bench() {
        check.says(44, "Returns the longest way in it, without sign.");
        Ringtrack x = SQUARE.get();
        check.same("bench() of a page of 0", x.bench(), 0);
        x.stick(0, 0, 1);
        x.stick(0, 1, 1);
        check.same("bench() with 16 as the longest one", x.bench(), 16);
        x.stick(1, 0, 0);
        x.stick(1, 1, 0);
        check.same("bench() with -32 as the longest one", x.bench(), 32);
        x.stick(0, 0, 0);
        x.stick(0, 1, 0);
        x.stick(1, 0, -1);
        x.stick(1, 1, -1);
        hasPage("with the head 0 at 8", x, 16, 0, -8, 16, 8);
        check.says(44, "Throws `UnsupportedOperationException` if there is no disc");
        check.unsupported("bench()", () -> NO_DISC.get().bench());
    }

    private static void page() {
        check.says(45, "- `place`: the place");
        ranges.within("page of a square", SQUARE, 0, 3, Ringtrack::page, n -> 0);
        Supplier<Ringtrack> six = () -> {
            Ringtrack x = Rings.typedDisc(0, Rings.SIX);
            x.stick(0, 1, 1);
            x.bench();
            return x;
        };
        check.says(45, "Returns the way.");
        int[] due = {0, 8, 0, 0, 0, -8};
        ranges.within("page of six words", six, 0, 5, Ringtrack::page, n -> due[n]);
        check.says(45, "Throws `UnsupportedOperationException` if there is no disc");
        check.unsupported("page(0)", () -> NO_DISC.get().page(0));
        check.unsupported("page(-1)", () -> NO_DISC.get().page(-1));
        check.says(45, "Throws `IllegalArgumentException` if there is no such place");
        ranges.outOfRange("page of a square", SQUARE, 0, 3, Ringtrack::page);
        ranges.outOfRange("page of six words", six, 0, 5, Ringtrack::page);
        ranges.outOfRange("page of 64 words", () -> Rings.disc(6, 0), 0, 63, Ringtrack::page);
    }

    private static void closing() {
        check.says(46, "Returns the sum of the page.");
        check.says(46, "Returns the sum.");
        Ringtrack x = SQUARE.get();
        check.same("closing() of a new disc", x.closing(), 0);
        x.stick(0, 0, 1);
        x.stick(0, 1, 1);
        x.stick(1, 0, 0);
        x.stick(1, 1, 0);
        check.same("closing() before the page is written", x.closing(), 0);
        x.bench();
        check.same("closing() of -32, 16, 0, -16", x.closing(), -32);
        x.stick(0, 0, -1);
        check.same("closing() before it is written again", x.closing(), -32);
        check.says(46, "Throws `UnsupportedOperationException` if there is no disc");
        check.unsupported("closing()", () -> NO_DISC.get().closing());
    }

    /** The page is -32, 16, 0, -16; the angle is turned to without dirt, and told as the middle of its place. */
    private static Ringtrack withPage(int place) {
        Ringtrack x = SQUARE.get();
        x.stick(0, 0, 1);
        x.stick(0, 1, 1);
        x.stick(1, 0, 0);
        x.stick(1, 1, 0);
        x.bench();
        for (int track = 0; track < 2; track++) {
            x.stick(0, track, -1);
            x.stick(1, track, -1);
        }
        x.power(false);
        x.turn(16 * place);
        x.power(true);
        check.same("told()", x.told(), 16 * place + 8);
        return x;
    }

    private static void corrected() {
        check.says(47, "Returns what is told, less what the page has for the place of that.");
        ranges.within("corrected at the place", SQUARE, 0, 3, (x, n) -> withPage(n).corrected(),
                n -> new int[] {40, 8, 40, 8}[n]);
        check.says(47, "Returns the steps, modulo the turn, from 0 on.");
        Ringtrack below = SQUARE.get();
        below.stick(0, 0, 1);
        below.stick(0, 1, 1);
        below.bench();
        check.same("corrected(): 0 less 16", below.corrected(), 48);
        check.same("corrected(): 56 and 16", withPage(3).corrected(), 8);
        Ringtrack x = SQUARE.get();
        check.same("corrected() of a new disc", x.corrected(), 0);
        x.turn(-1);
        check.same("corrected() before a page is written", x.corrected(), 56);
        Ringtrack end = withPage(3);
        end.stick(1, 1, 1);
        end.stick(1, 0, 1);
        end.turn(0);
        check.same("told() between 56 and 8", end.told(), 0);
        check.same("corrected(): 0 and 32", end.corrected(), 32);
        check.says(47, "Throws `UnsupportedOperationException` if there is no disc");
        check.unsupported("corrected()", () -> NO_DISC.get().corrected());
    }

    private static void escapes() {
        check.says(48, "Returns how many single faults escape.");
        check.says(48, "Returns their number.");
        check.same("escapes() of none", SQUARE.get().escapes(), 0);
        Ringtrack x = Rings.disc(4, 20);
        x.setLimit(200);
        check.same("escapes() of 6 of 16", x.escapes(), 6);
        check.same("escapes() once more", x.escapes(), 6);
        check.says(48, "Throws `UnsupportedOperationException` if there is no disc");
        check.unsupported("escapes()", () -> NO_DISC.get().escapes());
    }
}
