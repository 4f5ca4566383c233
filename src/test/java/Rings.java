/** Rings of words for the tests, and objects that have them. */
final class Rings {

    static final int[] SQUARE = {0, 1, 3, 2};
    /** Of one track, without the words 2 and 5. */
    static final int[] SIX = {0, 1, 3, 7, 6, 4};
    /** Each track changes twice, but they are not alike. */
    static final int[] UNLIKE = {0, 1, 3, 2, 6, 4};

    private Rings() {
    }

    static void typeAll(Ringtrack x, int... words) {
        for (int word : words) {
            x.type(word);
        }
    }

    static Ringtrack ofTyped(int... words) {
        Ringtrack x = new Ringtrack();
        typeAll(x, words);
        x.ring();
        return x;
    }

    static Ringtrack ofReflected(int bits) {
        Ringtrack x = new Ringtrack();
        x.reflected(bits);
        return x;
    }

    static Ringtrack disc(int bits, int off) {
        Ringtrack x = ofReflected(bits);
        x.setDisc(0, off);
        return x;
    }

    static Ringtrack typedDisc(int off, int... words) {
        Ringtrack x = ofTyped(words);
        x.setDisc(0, off);
        return x;
    }
}
