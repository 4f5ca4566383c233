import java.util.Arrays;
import java.util.Random;

/** Rings of words for the tests, and objects that have them. */
final class Rings {

    static final int[] SQUARE = {0, 1, 3, 2};
    /** Of one track, without the words 2 and 5. */
    static final int[] SIX = {0, 1, 3, 7, 6, 4};
    /** Each track changes twice, but they are not alike. */
    static final int[] UNLIKE = {0, 1, 3, 2, 6, 4};

    private Rings() {
    }

    /** A walk along the edges of a cube of 2 to 8 bits, cut where its last word is beside its first one. */
    static int[] drawn(Random random) {
        int[] walk = new int[64];
        int bits = 2 + random.nextInt(7);
        walk[0] = random.nextInt(256);
        int length = 1;
        int cut = 0;
        for (int tried = 0; tried < 400 && length < walk.length; tried++) {
            int next = walk[length - 1] ^ 1 << random.nextInt(bits);
            if (!isAmong(walk, length, next)) {
                walk[length] = next;
                length++;
                cut = length >= 4 && Integer.bitCount(next ^ walk[0]) == 1 ? length : cut;
            }
        }
        return cut == 0 ? SQUARE : Arrays.copyOf(walk, cut);
    }

    private static boolean isAmong(int[] words, int count, int word) {
        for (int k = 0; k < count; k++) {
            if (words[k] == word) {
                return true;
            }
        }
        return false;
    }

    static void typeAll(Ringtrack x, int... words) {
        for (int word : words) {
            x.type(word);
        }
    }

    static Ringtrack ofTyped(int... words) {
        Ringtrack x = new Ringtrack();
        typeAll(x, words);
        x.ring();
        return x;
    }

    static Ringtrack ofReflected(int bits) {
        Ringtrack x = new Ringtrack();
        x.reflected(bits);
        return x;
    }

    static Ringtrack disc(int bits, int off) {
        Ringtrack x = ofReflected(bits);
        x.setDisc(0, off);
        return x;
    }

    static Ringtrack typedDisc(int off, int... words) {
        Ringtrack x = ofTyped(words);
        x.setDisc(0, off);
        return x;
    }
}
