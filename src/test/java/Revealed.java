import java.util.ArrayList;
import java.util.List;

/**
 * Asks an object for all that it keeps, in some 190 calls: what can be asked, and then what shows only when the disc is
 * turned, cleaned and no longer sticks, and frames arrive. The object is used up by that.
 */
final class Revealed {

    private final Ringtrack x;
    private final List<String> answers = new ArrayList<>();

    private Revealed(Ringtrack x) {
        this.x = x;
    }

    static List<String> of(Ringtrack x) {
        Revealed all = new Revealed(x);
        all.whatIsAsked();
        all.settings();
        all.codes();
        all.frames();
        all.dirt();
        all.power();
        all.typed();
        return all.answers;
    }

    private void note(String call, Check.Call made) {
        Object got;
        try {
            got = made.answer();
        } catch (RuntimeException e) {
            got = e.getClass().getSimpleName();
        }
        answers.add(call + " = " + got);
    }

    private void whatIsAsked() {
        note("checksum()", () -> x.checksum());
        note("isSound()", () -> x.isSound());
        note("stops()", () -> x.stops());
        note("bad()", () -> x.bad());
        note("badShare()", () -> x.badShare());
        note("angle()", () -> x.angle());
        note("trueRounds()", () -> x.trueRounds());
        note("told()", () -> x.told());
        note("toldRounds()", () -> x.toldRounds());
        note("state()", () -> x.state());
        note("doubt()", () -> x.doubt());
        note("holds()", () -> x.holds());
        note("speed()", () -> x.speed());
        note("recover()", () -> x.recover());
        note("corrected()", () -> x.corrected());
        note("closing()", () -> x.closing());
        note("escapes()", () -> x.escapes());
        for (int k = 0; k < 9; k++) {
            int index = k;
            note("wayAt(" + k + ")", () -> x.wayAt(index));
        }
        for (int k = 0; k < 7; k++) {
            int place = k;
            note("page(" + k + ")", () -> x.page(place));
        }
        for (int k = 0; k < 4; k++) {
            int gear = k;
            note("tooth(" + k + ")", () -> x.tooth(gear));
        }
    }

    private void settings() {
        note("setLimit(40)", () -> x.setLimit(40));
        note("setTolerance(48)", () -> x.setTolerance(48));
    }

    private void codes() {
        for (int k = 0; k < 5; k++) {
            int code = k;
            note("words(" + k + ")", () -> x.words(code));
            note("tracks(" + k + ")", () -> x.tracks(code));
            note("isBalanced(" + k + ")", () -> x.isBalanced(code));
            note("isOneTrack(" + k + ")", () -> x.isOneTrack(code));
            for (int at = 0; at < 6; at++) {
                int place = at;
                note("word(" + k + ", " + at + ")", () -> x.word(code, place));
            }
        }
    }

    private void frames() {
        for (int k = 1; k <= 9; k++) {
            note("tick(1) as number " + k, () -> x.tick(1));
        }
        for (int k = 1; k <= 12; k++) {
            note("take() as number " + k, () -> x.take());
        }
        note("bad()", () -> x.bad());
        note("badShare()", () -> x.badShare());
    }

    private void seenAround() {
        for (int k = 0; k < 6; k++) {
            note("seen(0)", () -> x.seen(0));
            note("seen(1)", () -> x.seen(1));
            note("turn(16)", () -> x.turn(16));
        }
    }

    /** Without power, so that nothing is read while it turns. */
    private void dirt() {
        note("power(false)", () -> x.power(false));
        seenAround();
        for (int head = 0; head < 2; head++) {
            for (int track = 0; track < 3; track++) {
                int which = head;
                int where = track;
                note("stick(" + head + ", " + track + ", -1)", () -> x.stick(which, where, -1));
            }
        }
        seenAround();
        note("turn(96)", () -> x.turn(96));
        seenAround();
        note("clean()", () -> x.clean());
        note("seen(0)", () -> x.seen(0));
        note("estimate(0)", () -> x.estimate(0));
    }

    private void power() {
        note("power(true)", () -> x.power(true));
        note("told()", () -> x.told());
        note("toldRounds()", () -> x.toldRounds());
        note("turn(16)", () -> x.turn(16));
        note("told()", () -> x.told());
        note("wayAt(0)", () -> x.wayAt(0));
        note("addGear(2)", () -> x.addGear(2));
        note("stops()", () -> x.stops());
    }

    private void typed() {
        note("ring()", () -> x.ring());
        note("wipe()", () -> x.wipe());
        note("reflected(2)", () -> x.reflected(2));
        note("words(4)", () -> x.words(4));
    }
}
