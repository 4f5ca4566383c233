/** The paragraph "Codes" and the promises 1 to 12, sentence by sentence, at their edges. */
public final class EdgesOfCodesTest {

    private static final Check check = new Check("edges of codes");
    private static final Ranges ranges = new Ranges(check);

    public static void main(String[] args) {
        fourCodes();
        upToEightMarks();
        reflectedOnes();
        ringOfFourOrMore();
        ringOfUnlikeWords();
        ringOfSingleBits();
        ringOverItsEnd();
        balanced();
        ofOneTrack();
        newObject();
        type();
        wipe();
        ring();
        reflected();
        words();
        tracks();
        word();
        place();
        changes();
        isBalanced();
        isOneTrack();
        check.end();
    }

    // ---- Terms: Codes

    private static final String CODES = "At most 4 are numbered from 0, each a ring of words of up to 8 marks, bits 0"
            + " to 7, its tracks being those up to the highest one that some word has.";

    /** 64 words, all unlike, the last one beside the first one. */
    private static int[] sixtyFour() {
        int[] words = new int[64];
        for (int k = 0; k < 64; k++) {
            words[k] = k ^ k >> 1;
        }
        return words;
    }

    private static Ringtrack fourOf(int bits) {
        Ringtrack x = new Ringtrack();
        for (int k = 0; k < 4; k++) {
            x.reflected(bits);
        }
        return x;
    }

    private static void fourCodes() {
        check.says(CODES);
        Ringtrack x = new Ringtrack();
        check.unknown("words(0) of no code", () -> x.words(0));
        Rings.typeAll(x, Rings.SIX);
        check.same("ring() as the first one", x.ring(), 0);
        check.unknown("words(1) of one code", () -> x.words(1));
        check.same("reflected(3) as the second one", x.reflected(3), 1);
        check.same("reflected(2) as the third one", x.reflected(2), 2);
        Rings.typeAll(x, Rings.SQUARE);
        check.same("ring() as the fourth one", x.ring(), 3);
        check.same("words(0)", x.words(0), 6);
        check.same("words(1)", x.words(1), 8);
        check.same("words(2)", x.words(2), 4);
        check.same("words(3)", x.words(3), 4);
        check.unknown("words(4) of four codes", () -> x.words(4));
        check.full("reflected(2) as a fifth one", () -> x.reflected(2));
        Rings.typeAll(x, Rings.SQUARE);
        check.full("ring() as a fifth one", () -> x.ring());
    }

    private static void upToEightMarks() {
        check.says(CODES);
        check.same("tracks of the bits 0 and 1", Rings.ofTyped(0, 1, 3, 2).tracks(0), 2);
        check.same("tracks where the bit 7 changes", Rings.ofTyped(0, 1, 129, 128).tracks(0), 8);
        check.same("tracks where each word has the bit 7", Rings.ofTyped(128, 129, 131, 130).tracks(0), 8);
        check.same("tracks where the first word alone has the highest bit",
                Rings.ofTyped(4, 0, 1, 3, 2, 6).tracks(0), 3);
        Ringtrack x = Rings.ofTyped(0, 1, 129, 128);
        check.same("changes(0, 7)", x.changes(0, 7), 2);
        check.bad("changes(0, 8)", () -> x.changes(0, 8));
        x.setDisc(0, 0);
        x.stick(0, 7, 1);
        check.same("seen(0) with the bit 7", x.seen(0), 128);
    }

    private static void reflectedOnes() {
        check.says("The reflected one of b bits has 2 to the b words: that at the place k is k, exclusive or k"
                + " divided by 2, cut.");
        int[][] due = {
            {0, 1, 3, 2},
            {0, 1, 3, 2, 6, 7, 5, 4},
            {0, 1, 3, 2, 6, 7, 5, 4, 12, 13, 15, 14, 10, 11, 9, 8},
        };
        for (int bits = 2; bits <= 4; bits++) {
            Ringtrack x = Rings.ofReflected(bits);
            check.same("words of " + bits + " bits", x.words(0), due[bits - 2].length);
            for (int k = 0; k < due[bits - 2].length; k++) {
                check.same("word(0, " + k + ") of " + bits + " bits", x.word(0, k), due[bits - 2][k]);
            }
        }
        Ringtrack five = Rings.ofReflected(5);
        check.same("words of 5 bits", five.words(0), 32);
        check.same("the last word of 5 bits", five.word(0, 31), 16);
        check.same("the word 21 of 5 bits", five.word(0, 21), 31);
        Ringtrack six = Rings.ofReflected(6);
        check.same("words of 6 bits", six.words(0), 64);
        check.same("the word 1 of 6 bits", six.word(0, 1), 1);
        check.same("the word 31 of 6 bits", six.word(0, 31), 16);
        check.same("the word 32 of 6 bits", six.word(0, 32), 48);
        check.same("the last word of 6 bits", six.word(0, 63), 32);
    }

    private static final String RINGS = "Of typed words a ring is made, if there are 4 or more, all unlike, each and the"
            + " next one, the last one and the first one too, differing by one bit.";

    private static void isRing(boolean isOne, String which, int... words) {
        Ringtrack x = new Ringtrack();
        Rings.typeAll(x, words);
        if (isOne) {
            check.same("ring() of " + which, x.ring(), 0);
            check.same("words of " + which, x.words(0), words.length);
        } else {
            check.unsupported("ring() of " + which, () -> x.ring());
            check.unknown("words of " + which, () -> x.words(0));
        }
    }

    private static void ringOfFourOrMore() {
        check.says(RINGS);
        isRing(false, "none");
        isRing(false, "one", 0);
        isRing(false, "two", 0, 1);
        isRing(false, "three", 0, 1, 3);
        isRing(true, "four", 0, 1, 3, 2);
        isRing(true, "four high ones", 255, 127, 63, 191);
        isRing(false, "five", 0, 1, 3, 7, 5);
        isRing(true, "six", Rings.SIX);
        isRing(true, "64", sixtyFour());
    }

    private static void ringOfUnlikeWords() {
        check.says(RINGS);
        isRing(false, "the first one and the third one alike", 0, 1, 0, 2);
        isRing(false, "the second one and the last one alike", 0, 1, 3, 1);
        isRing(false, "the first one in the middle again", 0, 1, 3, 2, 0, 4);
        isRing(false, "the third one once more", 0, 1, 3, 7, 3, 2);
        int[] words = new int[64];
        for (int k = 0; k < 64; k++) {
            words[k] = sixtyFour()[Math.min(k, 64 - k)];
        }
        isRing(false, "33 forth and back", words);
    }

    private static void ringOfSingleBits() {
        check.says(RINGS);
        isRing(false, "no bit from the first one on", 0, 0, 1, 3, 2);
        isRing(false, "two bits from the first one on", 0, 3, 2, 6, 4);
        isRing(false, "two bits in the middle", 0, 1, 2, 6, 4);
        isRing(false, "two bits before the last one", 0, 1, 3, 2, 4);
        isRing(false, "eight bits", 0, 255, 254, 252);
    }

    private static void ringOverItsEnd() {
        check.says(RINGS);
        isRing(false, "two bits from the last one to the first one", 0, 1, 3, 7, 6);
        isRing(false, "three bits from the last one to the first one", 0, 1, 3, 7);
        isRing(false, "the last one as the first one", 0, 1, 3, 2, 0);
        isRing(true, "one bit from the last one to the first one", 0, 1, 3, 7, 5, 4);
    }

    private static void balanced(boolean isOne, int[] changes, int... words) {
        Ringtrack x = Rings.ofTyped(words);
        String which = java.util.Arrays.toString(changes);
        for (int track = 0; track < changes.length; track++) {
            check.same("changes(0, " + track + ") of " + which, x.changes(0, track), changes[track]);
        }
        check.same("tracks of " + which, x.tracks(0), changes.length);
        check.same("isBalanced of " + which, x.isBalanced(0), isOne);
    }

    private static void balanced() {
        check.says("It is balanced if how often its tracks change, all around, differs by 2 at most, of any two of"
                + " them.");
        balanced(true, new int[] {2, 2}, 0, 1, 3, 2);
        balanced(true, new int[] {4, 2, 2}, 0, 1, 3, 2, 6, 7, 5, 4);
        balanced(true, new int[] {2, 2, 4}, 0, 1, 5, 7, 3, 2, 6, 4);
        balanced(true, new int[] {4, 4, 4, 4}, 0, 1, 3, 2, 6, 7, 15, 11, 9, 13, 5, 4, 12, 14, 10, 8);
        balanced(true, new int[] {2, 4, 4, 4}, 0, 1, 3, 7, 5, 13, 15, 14, 10, 2, 6, 4, 12, 8);
        balanced(false, new int[] {8, 4, 2, 2}, 0, 1, 3, 2, 6, 7, 5, 4, 12, 13, 15, 14, 10, 11, 9, 8);
        balanced(false, new int[] {4, 2, 6, 4}, 0, 1, 3, 2, 6, 14, 10, 11, 15, 7, 5, 13, 9, 8, 12, 4);
        balanced(false, new int[] {4, 2, 6, 2}, 0, 1, 3, 2, 6, 14, 10, 11, 15, 13, 9, 8, 12, 4);
        balanced(true, new int[] {2, 2, 0}, 4, 5, 7, 6);
        balanced(true, new int[] {0, 2, 2}, 0, 2, 6, 4);
        balanced(false, new int[] {0, 4, 2, 2}, 0, 2, 6, 4, 12, 14, 10, 8);
        balanced(false, new int[] {4, 2, 2, 0}, 8, 9, 11, 10, 14, 15, 13, 12);
    }

    private static void oneTrack(boolean isOne, String which, int... words) {
        check.same("isOneTrack of " + which, Rings.ofTyped(words).isOneTrack(0), isOne);
    }

    private static int[] moved(int from, int[] words) {
        int[] moved = new int[words.length];
        for (int k = 0; k < words.length; k++) {
            moved[k] = words[(k + from) % words.length];
        }
        return moved;
    }

    private static void ofOneTrack() {
        check.says("It is of one track if each track is the track 0 from some place on.");
        oneTrack(true, "two tracks", 0, 1, 3, 2);
        oneTrack(true, "three tracks", 0, 1, 3, 7, 6, 4);
        oneTrack(true, "three tracks from the second word on", 1, 3, 7, 6, 4, 0);
        oneTrack(true, "four tracks", 0, 1, 3, 7, 15, 14, 12, 8);
        oneTrack(true, "a track that is moved by the most places", 0, 2, 3, 1);
        oneTrack(false, "marks for 2, 2, 3 words", 0, 1, 5, 4, 6, 2);
        for (int from = 0; from < 6; from++) {
            oneTrack(false, "marks for 2, 3, 2 words, from " + from, moved(from, Rings.UNLIKE));
            oneTrack(true, "marks for 3, 3, 3 words, from " + from, moved(from, Rings.SIX));
        }
        oneTrack(true, "marks for 3 words of 8, each", 2, 3, 1, 5, 4, 12, 8, 10);
        oneTrack(false, "marks for 3, 5, 3, 3 words of 8", 0, 1, 3, 7, 6, 14, 10, 8);
        oneTrack(false, "marks for 5, 3, 3, 3 words of 8", 3, 2, 0, 4, 5, 13, 9, 11);
        oneTrack(false, "as many marks, otherwise apart", 0, 1, 3, 2, 6, 7, 5, 4);
        oneTrack(false, "four tracks that change 4 times each",
                0, 1, 3, 2, 6, 7, 15, 11, 9, 13, 5, 4, 12, 14, 10, 8);
        oneTrack(false, "a track that no word has", 0, 2, 6, 4);
        oneTrack(false, "a track that each word has", 4, 5, 7, 6);
    }

    // ---- promises 1 to 12

    private static void newObject() {
        check.says(1, "Creates a bench without codes and a disc, with the power on.");
        Ringtrack used = Rings.disc(2, 3);
        used.type(4);
        used.setLimit(50);
        used.turn(100);
        Ringtrack x = new Ringtrack();
        check.unknown("words(0)", () -> x.words(0));
        check.unsupported("angle()", () -> x.angle());
        check.unsupported("power(true)", () -> x.power(true));
        check.same("checksum()", x.checksum(), 7L);
        check.same("stops()", x.stops(), 0);
        check.same("bad()", x.bad(), 0);
        check.same("type(0): none are typed", x.type(0), 1);
        check.same("setLimit(40)", x.setLimit(40), 40);
        check.same("setTolerance(48)", x.setTolerance(48), 48);
        check.same("tick(20): none is under way", x.tick(20), 0);
        check.same("isSound()", x.isSound(), true);
        x.reflected(2);
        x.setDisc(0, 0);
        check.same("power(true): it is on", x.power(true), true);
        check.same("what another object has stays", used.wipe(), 1);
    }

    private static Ringtrack typed(int count) {
        Ringtrack x = new Ringtrack();
        for (int k = 0; k < count; k++) {
            x.type(k);
        }
        return x;
    }

    private static void type() {
        check.says(2, "- `word`: 0 to 255");
        ranges.within("type", Ringtrack::new, 0, 255, Ringtrack::type, n -> 1);
        ranges.within("the sum of type", Ringtrack::new, 0, 255, (x, n) -> {
            x.type(n);
            return x.checksum();
        }, n -> 7L * 31 + n);
        check.says(2, "Throws `IllegalArgumentException` if a number is out of range");
        ranges.outOfRange("type", Ringtrack::new, 0, 255, Ringtrack::type);
        ranges.outOfRange("type at 63", () -> typed(63), 0, 255, Ringtrack::type);
        check.says(2, "Returns how many are typed.");
        Ringtrack x = new Ringtrack();
        for (int k = 1; k <= 64; k++) {
            check.same("type(7) as number " + k, x.type(7), k);
        }
        check.says(2, "Throws `IllegalStateException` if there are 64");
        ranges.within("type at 63", () -> typed(63), 0, 255, Ringtrack::type, n -> 64);
        check.full("type(0) at 64", () -> x.type(0));
        check.full("type(255) at 64", () -> x.type(255));
        check.same("wipe() at 64", x.wipe(), 64);
        check.same("type(0) behind wipe()", x.type(0), 1);
        Ringtrack y = new Ringtrack();
        Rings.typeAll(y, sixtyFour());
        y.ring();
        check.same("type(0) behind a ring() of 64", y.type(0), 1);
    }

    private static void wipe() {
        check.says(3, "Takes all typed words away.");
        Ringtrack x = typed(3);
        x.wipe();
        check.same("checksum() behind wipe()", x.checksum(), 7L);
        check.unsupported("ring() behind wipe()", () -> x.ring());
        check.says(3, "Returns how many there were.");
        check.same("wipe() of none", x.wipe(), 0);
        check.same("wipe() of one", typed(1).wipe(), 1);
        check.same("wipe() of 64", typed(64).wipe(), 64);
    }

    private static void ring() {
        check.says(4, "Makes a code of what is typed, which is gone then.");
        Ringtrack x = new Ringtrack();
        Rings.typeAll(x, Rings.SIX);
        check.says(4, "Returns its number.");
        check.same("ring()", x.ring(), 0);
        check.same("checksum() of no words", x.checksum(), 7L);
        check.same("wipe()", x.wipe(), 0);
        check.unsupported("ring() once more", () -> x.ring());
        Rings.typeAll(x, Rings.SQUARE);
        check.same("ring() of others", x.ring(), 1);
        for (int k = 0; k < 6; k++) {
            check.same("word(0, " + k + "): the first code stays", x.word(0, k), Rings.SIX[k]);
        }
        Rings.typeAll(x, 9, 9, 9, 9);
        check.same("word(1, 3): what is typed later is no code", x.word(1, 3), 2);
        x.wipe();
        check.says(4, "Throws `UnsupportedOperationException` if it is no ring");
        check.unsupported("ring() of none", () -> new Ringtrack().ring());
        check.unsupported("ring() of 64 that are none", () -> typed(64).ring());
        check.says(4, "Throws `IllegalStateException` if there are 4");
        Ringtrack full = fourOf(2);
        check.unsupported("ring() of none, at 4", () -> full.ring());
        full.type(0);
        check.unsupported("ring() of one, at 4", () -> full.ring());
        full.wipe();
        Rings.typeAll(full, Rings.SQUARE);
        check.full("ring() of four, at 4", () -> full.ring());
        check.same("wipe(): they are not gone", full.wipe(), 4);
    }

    private static void reflected() {
        check.says(5, "- `bits`: 2 to 6");
        ranges.within("reflected", Ringtrack::new, 2, 6, Ringtrack::reflected, n -> 0);
        check.says(5, "Throws `IllegalArgumentException` if a number is out of range");
        ranges.outOfRange("reflected", Ringtrack::new, 2, 6, Ringtrack::reflected);
        ranges.outOfRange("reflected at 4", () -> fourOf(2), 2, 6, Ringtrack::reflected);
        check.says(5, "Returns its number.");
        Ringtrack x = typed(2);
        for (int k = 0; k < 4; k++) {
            check.same("reflected(2)", x.reflected(2), k);
        }
        check.same("wipe(): what is typed stays", x.wipe(), 2);
        check.says(5, "Throws `IllegalStateException` if there are 4");
        check.full("reflected(2) at 4", () -> x.reflected(2));
        check.full("reflected(6) at 4", () -> x.reflected(6));
    }

    /** Codes of 4, 6 and 16 words. */
    private static Ringtrack threeCodes() {
        Ringtrack x = Rings.ofReflected(2);
        Rings.typeAll(x, Rings.SIX);
        x.ring();
        x.reflected(4);
        return x;
    }

    private static void words() {
        check.says(6, "Returns their number.");
        int[] due = {4, 6, 16};
        ranges.within("words", EdgesOfCodesTest::threeCodes, 0, 2, Ringtrack::words, n -> due[n]);
        check.says(6, "Throws `IndexOutOfBoundsException` if there is no such code");
        ranges.noSuchNumber("words", EdgesOfCodesTest::threeCodes, 3, Ringtrack::words);
        ranges.noSuchNumber("words of none", Ringtrack::new, 0, Ringtrack::words);
        ranges.noSuchNumber("words of four", () -> fourOf(2), 4, Ringtrack::words);
    }

    private static void tracks() {
        check.says(7, "Returns their number.");
        int[] due = {2, 3, 4};
        ranges.within("tracks", EdgesOfCodesTest::threeCodes, 0, 2, Ringtrack::tracks, n -> due[n]);
        check.says(7, "Throws `IndexOutOfBoundsException` if there is no such code");
        ranges.noSuchNumber("tracks", EdgesOfCodesTest::threeCodes, 3, Ringtrack::tracks);
        ranges.noSuchNumber("tracks of none", Ringtrack::new, 0, Ringtrack::tracks);
    }

    private static void word() {
        check.says(8, "Returns the word.");
        ranges.within("word(1, .)", EdgesOfCodesTest::threeCodes, 0, 5, (x, n) -> x.word(1, n), n -> Rings.SIX[n]);
        check.same("word(2, 15)", threeCodes().word(2, 15), 8);
        check.says(8, "Throws `IndexOutOfBoundsException` if there is no such code");
        ranges.noSuchNumber("word(., 0)", EdgesOfCodesTest::threeCodes, 3, (x, n) -> x.word(n, 0));
        ranges.noSuchNumber("word(., -1)", EdgesOfCodesTest::threeCodes, 3, (x, n) -> x.word(n, -1));
        check.says(8, "Throws `IllegalArgumentException` if there is no such place");
        ranges.outOfRange("word(0, .)", EdgesOfCodesTest::threeCodes, 0, 3, (x, n) -> x.word(0, n));
        ranges.outOfRange("word(1, .)", EdgesOfCodesTest::threeCodes, 0, 5, (x, n) -> x.word(1, n));
        ranges.outOfRange("word(2, .)", EdgesOfCodesTest::threeCodes, 0, 15, (x, n) -> x.word(2, n));
    }

    private static void place() {
        check.says(9, "- `word`: 0 to 255");
        check.same("place(0, 0)", threeCodes().place(0, 0), 0);
        check.same("place(0, 255)", Rings.ofTyped(254, 252, 253, 255).place(0, 255), 3);
        check.says(9, "Returns the place.");
        for (int k = 0; k < 6; k++) {
            check.same("place(1, " + Rings.SIX[k] + ")", threeCodes().place(1, Rings.SIX[k]), k);
        }
        check.says(9, "Throws `IndexOutOfBoundsException` if there is no such code");
        ranges.noSuchNumber("place(., 0)", EdgesOfCodesTest::threeCodes, 3, (x, n) -> x.place(n, 0));
        ranges.noSuchNumber("place(., 256)", EdgesOfCodesTest::threeCodes, 3, (x, n) -> x.place(n, 256));
        check.says(9, "Throws `IllegalArgumentException` if a number is out of range");
        ranges.outOfRange("place(1, .)", EdgesOfCodesTest::threeCodes, 0, 255, (x, n) -> x.place(1, n));
        check.says(9, "Throws `NoSuchElementException` if the code has no such word");
        Ringtrack x = threeCodes();
        check.missing("place(0, 4)", () -> x.place(0, 4));
        check.missing("place(1, 2)", () -> x.place(1, 2));
        check.missing("place(1, 5)", () -> x.place(1, 5));
        check.missing("place(1, 255)", () -> x.place(1, 255));
        check.missing("place(0, 0) of high words", () -> Rings.ofTyped(254, 252, 253, 255).place(0, 0));
    }

    private static void changes() {
        check.says(10, "Returns how often.");
        int[] due = {8, 4, 2, 2};
        ranges.within("changes(2, .)", EdgesOfCodesTest::threeCodes, 0, 3, (x, n) -> x.changes(2, n), n -> due[n]);
        check.same("changes(0, 1)", threeCodes().changes(0, 1), 2);
        check.same("changes from the last word to the first one alone, and once more",
                Rings.ofTyped(0, 4, 5, 7, 6, 2).changes(0, 1), 2);
        check.says(10, "Throws `IndexOutOfBoundsException` if there is no such code");
        ranges.noSuchNumber("changes(., 0)", EdgesOfCodesTest::threeCodes, 3, (x, n) -> x.changes(n, 0));
        ranges.noSuchNumber("changes(., 9)", EdgesOfCodesTest::threeCodes, 3, (x, n) -> x.changes(n, 9));
        check.says(10, "Throws `IllegalArgumentException` if there is no such track");
        ranges.outOfRange("changes(0, .)", EdgesOfCodesTest::threeCodes, 0, 1, (x, n) -> x.changes(0, n));
        ranges.outOfRange("changes(2, .)", EdgesOfCodesTest::threeCodes, 0, 3, (x, n) -> x.changes(2, n));
    }

    private static void isBalanced() {
        check.says(11, "Returns true if so.");
        check.same("isBalanced(1)", threeCodes().isBalanced(1), true);
        check.same("isBalanced(2)", threeCodes().isBalanced(2), false);
        check.says(11, "Throws `IndexOutOfBoundsException` if there is no such code");
        ranges.noSuchNumber("isBalanced", EdgesOfCodesTest::threeCodes, 3, Ringtrack::isBalanced);
        ranges.noSuchNumber("isBalanced of none", Ringtrack::new, 0, Ringtrack::isBalanced);
    }

    private static void isOneTrack() {
        check.says(12, "Returns true if so.");
        check.same("isOneTrack(1)", threeCodes().isOneTrack(1), true);
        check.same("isOneTrack(2)", threeCodes().isOneTrack(2), false);
        check.says(12, "Throws `IndexOutOfBoundsException` if there is no such code");
        ranges.noSuchNumber("isOneTrack", EdgesOfCodesTest::threeCodes, 3, Ringtrack::isOneTrack);
        ranges.noSuchNumber("isOneTrack of none", Ringtrack::new, 0, Ringtrack::isOneTrack);
    }
}
