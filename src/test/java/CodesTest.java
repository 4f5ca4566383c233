/** Promises 1 to 12: a new object, and codes. */
public final class CodesTest {

    private static final Check check = new Check("codes");

    public static void main(String[] args) {
        newObject();
        type();
        wipe();
        ring();
        ringOnlyOfRings();
        ringIsLimited();
        reflected();
        wordsAndTracks();
        word();
        place();
        changes();
        isBalanced();
        isOneTrack();
        check.end();
    }

    private static void newObject() {
        Ringtrack x = new Ringtrack();
        check.same("stops()", x.stops(), 0);
        check.same("bad()", x.bad(), 0);
        check.same("checksum()", x.checksum(), 7L);
        check.same("isSound()", x.isSound(), true);
        check.unknown("words(0) of a new object", () -> x.words(0));
        check.unsupported("angle() of a new object", () -> x.angle());
        check.missing("take() of a new object", () -> x.take());
        check.missing("badShare() of a new object", () -> x.badShare());
        check.missing("flip(0, 0) of a new object", () -> x.flip(0, 0));
        check.same("tick(20) of a new object", x.tick(20), 0);
        check.same("lose(0) of a new object", x.lose(0), 0);
        check.same("setLimit(50)", x.setLimit(50), 40);
        check.same("setTolerance(50)", x.setTolerance(50), 48);
        check.same("wipe() of a new object", x.wipe(), 0);
        check.same("reflected(2) of a new object", x.reflected(2), 0);
        x.setDisc(0, 0);
        check.same("power(true)", x.power(true), true);
    }

    private static void type() {
        Ringtrack x = new Ringtrack();
        check.bad("type(-1)", () -> x.type(-1));
        check.bad("type(256)", () -> x.type(256));
        check.bad("type(least)", () -> x.type(Integer.MIN_VALUE));
        check.same("type(255)", x.type(255), 1);
        check.same("type(0)", x.type(0), 2);
        check.same("type(0) again", x.type(0), 3);
        check.same("checksum()", x.checksum(), ((7L * 31 + 255) * 31) * 31);
        for (int k = 4; k <= 64; k++) {
            check.same("type(5) as number " + k, x.type(5), k);
        }
        check.full("type(5) at 64", () -> x.type(5));
        check.bad("type(256) at 64", () -> x.type(256));
        check.same("wipe()", x.wipe(), 64);
    }

    private static void wipe() {
        Ringtrack x = new Ringtrack();
        Rings.typeAll(x, 9, 9, 9);
        check.same("wipe()", x.wipe(), 3);
        check.same("wipe() again", x.wipe(), 0);
        check.same("checksum() behind wipe()", x.checksum(), 7L);
        Rings.typeAll(x, Rings.SQUARE);
        check.same("ring() behind wipe()", x.ring(), 0);
        check.same("words(0)", x.words(0), 4);
    }

    private static void ring() {
        Ringtrack x = new Ringtrack();
        Rings.typeAll(x, Rings.SIX);
        check.same("ring()", x.ring(), 0);
        check.same("wipe() behind ring()", x.wipe(), 0);
        for (int k = 0; k < Rings.SIX.length; k++) {
            check.same("word(0, " + k + ")", x.word(0, k), Rings.SIX[k]);
        }
        Rings.typeAll(x, 255, 254, 252, 253);
        check.same("ring() of high words", x.ring(), 1);
        check.same("word(1, 3)", x.word(1, 3), 253);
        for (int k = 0; k < 64; k++) {
            x.type(4 * (k ^ k >> 1) + 1);
        }
        check.same("ring() of 64", x.ring(), 2);
        check.same("words(2)", x.words(2), 64);
        check.same("place(2, 129)", x.place(2, 129), 63);
    }

    private static void noRing(int... words) {
        Ringtrack x = new Ringtrack();
        Rings.typeAll(x, words);
        check.unsupported("ring() of " + java.util.Arrays.toString(words), () -> x.ring());
        check.same("wipe() behind a refused ring()", x.wipe(), words.length);
        check.unknown("words(0) behind a refused ring()", () -> x.words(0));
    }

    private static void ringOnlyOfRings() {
        noRing();
        noRing(0, 1);
        noRing(0, 1, 3);
        noRing(0, 1, 0, 1);
        noRing(0, 1, 3, 1);
        noRing(0, 1, 3, 7, 3, 2);
        noRing(0, 1, 3, 7);
        noRing(1, 0, 3, 2);
        noRing(0, 1, 3, 2, 0);
        noRing(0, 0, 1, 3, 2);
        noRing(0, 1, 3, 3, 2);
    }

    private static void ringIsLimited() {
        Ringtrack x = new Ringtrack();
        for (int k = 0; k < 4; k++) {
            Rings.typeAll(x, Rings.SQUARE);
            check.same("ring()", x.ring(), k);
        }
        check.unsupported("ring() of nothing, with 4 codes", () -> x.ring());
        Rings.typeAll(x, Rings.SQUARE);
        check.full("ring() with 4 codes", () -> x.ring());
        check.same("wipe() behind that", x.wipe(), 4);
        check.full("reflected(2) with 4 codes", () -> x.reflected(2));
        check.bad("reflected(1) with 4 codes", () -> x.reflected(1));
        check.unknown("words(4)", () -> x.words(4));
    }

    private static void reflected() {
        Ringtrack x = new Ringtrack();
        check.bad("reflected(1)", () -> x.reflected(1));
        check.bad("reflected(7)", () -> x.reflected(7));
        check.bad("reflected(least)", () -> x.reflected(Integer.MIN_VALUE));
        x.type(77);
        check.same("reflected(2)", x.reflected(2), 0);
        check.same("reflected(6)", x.reflected(6), 1);
        check.same("reflected(3)", x.reflected(3), 2);
        check.same("wipe(): typed words stay", x.wipe(), 1);
        int[] three = {0, 1, 3, 2, 6, 7, 5, 4};
        for (int k = 0; k < 8; k++) {
            check.same("word(2, " + k + ")", x.word(2, k), three[k]);
        }
        check.same("words(1)", x.words(1), 64);
        check.same("word(1, 63)", x.word(1, 63), 32);
        check.same("word(1, 42)", x.word(1, 42), 63);
    }

    private static void wordsAndTracks() {
        Ringtrack x = new Ringtrack();
        for (int bits = 2; bits <= 5; bits++) {
            x.reflected(bits);
        }
        for (int code = 0; code < 4; code++) {
            check.same("words(" + code + ")", x.words(code), 4 << code);
            check.same("tracks(" + code + ")", x.tracks(code), 2 + code);
        }
        for (int none : new int[] {-1, 4, Integer.MIN_VALUE, Integer.MAX_VALUE}) {
            check.unknown("words(" + none + ")", () -> x.words(none));
            check.unknown("tracks(" + none + ")", () -> x.tracks(none));
        }
        check.same("tracks of high words", Rings.ofTyped(128, 129, 131, 130).tracks(0), 8);
        check.same("tracks where one word has the highest", Rings.ofTyped(Rings.SIX).tracks(0), 3);
        check.same("tracks without low ones", Rings.ofTyped(0, 8, 24, 16).tracks(0), 5);
        check.unknown("words(1) with one code", () -> Rings.ofReflected(2).words(1));
    }

    private static void word() {
        Ringtrack x = Rings.ofTyped(Rings.SIX);
        check.same("word(0, 5)", x.word(0, 5), 4);
        check.bad("word(0, 6)", () -> x.word(0, 6));
        check.bad("word(0, -1)", () -> x.word(0, -1));
        check.unknown("word(1, 0)", () -> x.word(1, 0));
        check.unknown("word(-1, -1)", () -> x.word(-1, -1));
    }

    private static void place() {
        Ringtrack x = Rings.ofTyped(Rings.SIX);
        for (int k = 0; k < 6; k++) {
            check.same("place(0, " + Rings.SIX[k] + ")", x.place(0, Rings.SIX[k]), k);
        }
        check.missing("place(0, 2)", () -> x.place(0, 2));
        check.missing("place(0, 255)", () -> x.place(0, 255));
        check.bad("place(0, 256)", () -> x.place(0, 256));
        check.bad("place(0, -1)", () -> x.place(0, -1));
        check.unknown("place(1, 256)", () -> x.place(1, 256));
    }

    private static void changes() {
        Ringtrack x = Rings.ofReflected(4);
        int[] due = {8, 4, 2, 2};
        for (int track = 0; track < 4; track++) {
            check.same("changes(0, " + track + ")", x.changes(0, track), due[track]);
        }
        check.bad("changes(0, 4)", () -> x.changes(0, 4));
        check.bad("changes(0, -1)", () -> x.changes(0, -1));
        check.unknown("changes(1, 4)", () -> x.changes(1, 4));
        Ringtrack y = Rings.ofTyped(128, 129, 131, 130);
        check.same("changes of a track that never does", y.changes(0, 7), 0);
        check.same("changes of a track that no word has", y.changes(0, 3), 0);
    }

    private static void isBalanced() {
        check.same("isBalanced of 2 bits", Rings.ofReflected(2).isBalanced(0), true);
        check.same("isBalanced of 4, 2, 2", Rings.ofReflected(3).isBalanced(0), true);
        check.same("isBalanced of 8, 4, 2, 2", Rings.ofReflected(4).isBalanced(0), false);
        check.same("isBalanced of 2, 2, 0 ..", Rings.ofTyped(128, 129, 131, 130).isBalanced(0), true);
        check.same("isBalanced of 4, 2, 2, 0",
                Rings.ofTyped(8, 9, 11, 10, 14, 15, 13, 12).isBalanced(0), false);
        check.same("isBalanced of 0, 4, 2, 2",
                Rings.ofTyped(0, 2, 6, 4, 12, 14, 10, 8).isBalanced(0), false);
        check.unknown("isBalanced(0) without codes", () -> new Ringtrack().isBalanced(0));
        check.unknown("isBalanced(-1)", () -> Rings.ofReflected(2).isBalanced(-1));
    }

    private static void isOneTrack() {
        check.same("isOneTrack of 2 bits", Rings.ofReflected(2).isOneTrack(0), true);
        check.same("isOneTrack of 3 bits", Rings.ofReflected(3).isOneTrack(0), false);
        check.same("isOneTrack of six", Rings.ofTyped(Rings.SIX).isOneTrack(0), true);
        check.same("isOneTrack of six, unlike", Rings.ofTyped(Rings.UNLIKE).isOneTrack(0), false);
        check.same("isOneTrack of six, the last one unlike",
                Rings.ofTyped(0, 1, 5, 4, 6, 2).isOneTrack(0), false);
        check.same("isOneTrack of eight",
                Rings.ofTyped(0, 1, 3, 7, 15, 14, 12, 8).isOneTrack(0), true);
        check.same("isOneTrack without low tracks", Rings.ofTyped(0, 8, 24, 16).isOneTrack(0), false);
        check.unknown("isOneTrack(0) without codes", () -> new Ringtrack().isOneTrack(0));
        check.unknown("isOneTrack(1)", () -> Rings.ofReflected(2).isOneTrack(1));
    }
}
