/** Promises 44 to 48: the page of the bench, and single faults. */
public final class BenchTest {

    private static final Check check = new Check("bench");

    public static void main(String[] args) {
        withoutDisc();
        pageRefuses();
        pageOfARoundDisc();
        pageOffCentre();
        pageWithSticking();
        pageWithASpeck();
        pageWithoutEstimates();
        benchChangesNothingElse();
        corrected();
        escapes();
        escapesLeaveTheDisc();
        check.end();
    }

    private static void withoutDisc() {
        Ringtrack x = Rings.ofReflected(2);
        check.unsupported("bench()", () -> x.bench());
        check.unsupported("page(9)", () -> x.page(9));
        check.unsupported("closing()", () -> x.closing());
        check.unsupported("corrected()", () -> x.corrected());
        check.unsupported("escapes()", () -> x.escapes());
    }

    private static void pageRefuses() {
        Ringtrack x = Rings.typedDisc(0, Rings.SIX);
        check.same("page(0)", x.page(0), 0);
        check.same("page(5)", x.page(5), 0);
        check.bad("page(6)", () -> x.page(6));
        check.bad("page(-1)", () -> x.page(-1));
    }

    private static void hasPage(String when, Ringtrack x, int longest, int... due) {
        check.same("bench() " + when, x.bench(), longest);
        int sum = 0;
        for (int k = 0; k < due.length; k++) {
            check.same("page(" + k + ") " + when, x.page(k), due[k]);
            sum += due[k];
        }
        check.same("closing() " + when, x.closing(), sum);
    }

    private static void pageOfARoundDisc() {
        hasPage("of a round disc", Rings.disc(3, 0), 0, 0, 0, 0, 0, 0, 0, 0, 0);
    }

    private static void pageOffCentre() {
        hasPage("off by 22", Rings.disc(4, 22), 8, 0, 8, 0, 0, 0, 0, 8, 0, 0, 8, 0, 0, 0, 0, 8, 0);
        hasPage("off by 20", Rings.disc(4, 20), 0, 0, 0, 0, 0, 0, 0, 0, 0, 0, 0, 0, 0, 0, 0, 0, 0);
    }

    private static void pageWithSticking() {
        Ringtrack x = Rings.disc(2, 0);
        x.stick(0, 0, 0);
        hasPage("with the track 0 as 0", x, 8, 0, -8, 8, 0);
        x.stick(0, 0, 1);
        x.stick(0, 1, 1);
        x.setTolerance(16);
        hasPage("with a way of a half turn", x, 16, 16, 8, 0, -8);
        x.stick(0, 0, -1);
        x.stick(0, 1, -1);
        check.same("page(0) before it is written again", x.page(0), 16);
        hasPage("without sticking", x, 0, 0, 0, 0, 0);
    }

    private static void pageWithASpeck() {
        Ringtrack x = Rings.disc(2, 0);
        x.addSpeck(1, 0, 1);
        hasPage("with a speck", x, 8, 0, -8, 0, -8);
        x.clean();
        check.same("closing() before it is written again", x.closing(), -16);
        hasPage("without specks", x, 0, 0, 0, 0, 0);
    }

    /** The head 0 sees words that the code has not at the places 0 and 3; at 1, 2, 4 and 5 nothing changes. */
    private static void pageWithoutEstimates() {
        Ringtrack x = Rings.typedDisc(0, Rings.SIX);
        x.stick(0, 1, 1);
        hasPage("with a word that is not", x, 8, 0, 8, 0, 0, 0, -8);
    }

    private static void benchChangesNothingElse() {
        Ringtrack x = Rings.disc(4, 22);
        x.addSpeck(1, 0, 5);
        x.turn(30);
        x.turn(16);
        int told = x.told();
        int seen = x.seen(0);
        x.bench();
        check.same("angle()", x.angle(), 46);
        check.same("trueRounds()", x.trueRounds(), 0);
        check.same("told()", x.told(), told);
        check.same("toldRounds()", x.toldRounds(), 0);
        check.same("state()", x.state(), 't');
        check.same("seen(0)", x.seen(0), seen);
        check.missing("wayAt(2)", () -> x.wayAt(2));
        x.power(false);
        x.clean();
        check.same("bench() without power", x.bench(), 8);
        check.same("closing()", x.closing(), 32);
    }

    private static void corrected() {
        Ringtrack x = Rings.disc(4, 22);
        x.turn(20);
        check.same("told()", x.told(), 16);
        check.same("corrected() before the page", x.corrected(), 16);
        x.bench();
        check.same("corrected()", x.corrected(), 8);
        Ringtrack y = Rings.disc(2, 0);
        y.stick(0, 0, 1);
        y.stick(0, 1, 1);
        y.bench();
        check.same("corrected() below 0", y.corrected(), 48);
        y.stick(0, 0, -1);
        y.stick(0, 1, -1);
        y.turn(-1);
        check.same("told()", y.told(), 56);
        check.same("corrected() over the end", y.corrected(), 0);
    }

    private static void escapes() {
        check.same("escapes() of a round square", Rings.disc(2, 0).escapes(), 0);
        Ringtrack x = Rings.disc(2, 40);
        x.setLimit(8);
        x.setTolerance(200);
        check.same("escapes() of a square off by 40", x.escapes(), 1);
        Ringtrack y = Rings.disc(4, 20);
        y.setLimit(200);
        check.same("escapes() of 4 bits off by 20", y.escapes(), 6);
        y.addSpeck(0, 0, 9);
        y.addSpeck(1, 0, 1);
        y.stick(0, 0, 1);
        y.stick(1, 3, 0);
        y.turn(100);
        y.power(false);
        check.same("escapes() of a dirty one", y.escapes(), 6);
        check.same("escapes() again", y.escapes(), 6);
    }

    private static void escapesLeaveTheDisc() {
        Ringtrack x = Rings.disc(4, 20);
        x.addSpeck(3, 1, 2);
        x.stick(0, 2, 1);
        x.addGear(5);
        x.turn(30);
        long sum = x.checksum();
        x.escapes();
        check.same("checksum()", x.checksum(), sum);
        check.same("stops()", x.stops(), 0);
        check.same("state()", x.state(), 'd');
        check.missing("wayAt(1)", () -> x.wayAt(1));
        check.same("stick(0, 2, -1)", x.stick(0, 2, -1), 1);
        check.same("clean()", x.clean(), 1);
        check.same("tooth(0)", x.tooth(0), 0);
        check.same("power(true)", x.power(true), true);
    }
}
