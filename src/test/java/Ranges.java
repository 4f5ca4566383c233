import java.util.function.Supplier;

/** Asks calls with the numbers at both ends of a range, and with those just beyond it and far from it. */
final class Ranges {

    interface Ask {
        Object of(Ringtrack x, int number);
    }

    interface Due {
        Object of(int number);
    }

    private final Check check;

    Ranges(Check check) {
        this.check = check;
    }

    /** Each number is asked of an object of its own. */
    void within(String call, Supplier<Ringtrack> fresh, int least, int most, Ask ask, Due due) {
        for (int number : new int[] {least, Math.min(least + 1, most), Math.max(most - 1, least), most}) {
            check.same(call + " with " + number, ask.of(fresh.get(), number), due.of(number));
        }
    }

    void beyond(String call, Supplier<Ringtrack> fresh, int least, int most, Ask ask,
            Class<? extends RuntimeException> due) {
        for (int number : new int[] {least - 1, most + 1, Integer.MIN_VALUE, Integer.MAX_VALUE}) {
            Ringtrack x = fresh.get();
            check.refused(call + " with " + number, due, () -> ask.of(x, number));
        }
    }

    void outOfRange(String call, Supplier<Ringtrack> fresh, int least, int most, Ask ask) {
        beyond(call, fresh, least, most, ask, IllegalArgumentException.class);
    }

    void noSuchNumber(String call, Supplier<Ringtrack> fresh, int count, Ask ask) {
        beyond(call, fresh, 0, count - 1, ask, IndexOutOfBoundsException.class);
    }
}
