import java.util.Arrays;
import java.util.NoSuchElementException;

/** A bench for coded discs: codes, a disc with its dirt, readings, gears, frames, a page and single faults. */
public final class Ringtrack {

    private static final int MOST_CODES = 4;
    private static final int LEAST_WORDS = 4;
    private static final int MOST_WORDS = 64;
    private static final int ALL_WORDS = 256;
    private static final int MOST_TRACKS = 8;
    private static final int STEPS = 16;
    private static final int HEADS = 2;
    private static final int MOST_OFF = 40;
    private static final int MOST_SPECKS = 6;
    private static final int MOST_CREEP = 9;
    private static final int MOST_TURNED = 500;
    private static final int MOST_WAYS = 8;
    private static final int SURE_DOUBT = 16;
    private static final int MOST_GEARS = 3;
    private static final int MOST_ROUNDS = 4095;
    private static final int MOST_UNDER_WAY = 9;
    private static final int FRAME_BITS = 16;
    private static final int CHECK = 13;
    /** Each frame is sent by a call of its own, and an object is used for 512 calls at most. */
    private static final int MOST_ARRIVED = 512;
    /** Stands for an angle, a place or a number of rounds that there is not; these are never below 0. */
    private static final int NONE = -1;

    private final int[] typed = new int[MOST_WORDS];
    private int typedCount;
    private final Code[] codes = new Code[MOST_CODES];
    private int codeCount;
    private Disc disc;
    private int limit = 40;
    private int tolerance = 48;
    private int stopCount;
    private final Frames frames = new Frames();

    public Ringtrack() {
    }

    // ---- codes

    public int type(int word) throws IllegalArgumentException, IllegalStateException {
        if (!isWithin(word, 0, ALL_WORDS - 1)) {
            throw new IllegalArgumentException("a word is 0 to 255");
        }
        if (typedCount >= typed.length) {
            throw new IllegalStateException("64 words are typed");
        }
        typed[typedCount] = word;
        typedCount++;
        return typedCount;
    }

    public int wipe() {
        int before = typedCount;
        typedCount = 0;
        return before;
    }

    public int ring() throws UnsupportedOperationException, IllegalStateException {
        if (!typedIsRing()) {
            throw new UnsupportedOperationException("what is typed is no ring");
        }
        if (codeCount >= codes.length) {
            throw new IllegalStateException("there are 4 codes");
        }
        int[] words = Arrays.copyOf(typed, typedCount);
        typedCount = 0;
        return keepCode(words);
    }

    public int reflected(int bits) throws IllegalArgumentException, IllegalStateException {
        if (!isWithin(bits, 2, 6)) {
            throw new IllegalArgumentException("bits are 2 to 6");
        }
        if (codeCount >= codes.length) {
            throw new IllegalStateException("there are 4 codes");
        }
        int[] words = new int[1 << bits];
        for (int k = 0; k < words.length; k++) {
            words[k] = k ^ (k / 2);
        }
        return keepCode(words);
    }

    public int words(int code) throws IndexOutOfBoundsException {
        return codeAt(code).words.length;
    }

    public int tracks(int code) throws IndexOutOfBoundsException {
        return codeAt(code).tracks;
    }

    public int word(int code, int place) throws IndexOutOfBoundsException, IllegalArgumentException {
        Code asked = codeAt(code);
        if (!asked.hasPlace(place)) {
            throw new IllegalArgumentException("no such place");
        }
        return asked.wordAt(place);
    }

    public int place(int code, int word)
            throws IndexOutOfBoundsException, IllegalArgumentException, NoSuchElementException {
        Code asked = codeAt(code);
        if (!isWithin(word, 0, ALL_WORDS - 1)) {
            throw new IllegalArgumentException("a word is 0 to 255");
        }
        int found = asked.placeOf(word);
        if (found == NONE) {
            throw new NoSuchElementException("the code has no such word");
        }
        return found;
    }

    public int changes(int code, int track) throws IndexOutOfBoundsException, IllegalArgumentException {
        Code asked = codeAt(code);
        if (!asked.hasTrack(track)) {
            throw new IllegalArgumentException("no such track");
        }
        return asked.changesOf(track);
    }

    public boolean isBalanced(int code) throws IndexOutOfBoundsException {
        return codeAt(code).changesEvenly();
    }

    public boolean isOneTrack(int code) throws IndexOutOfBoundsException {
        return codeAt(code).repeatsFirstTrack();
    }

    // ---- the disc

    public int setDisc(int code, int off) throws IndexOutOfBoundsException, IllegalArgumentException {
        Code asked = codeAt(code);
        if (!isWithin(off, 0, MOST_OFF)) {
            throw new IllegalArgumentException("a disc is off by 0 to 40");
        }
        disc = new Disc(asked, off);
        frames.clear();
        return disc.turn;
    }

    public int angle() throws UnsupportedOperationException {
        return theDisc().angle;
    }

    public int trueRounds() throws UnsupportedOperationException {
        return theDisc().rounds;
    }

    public int addSpeck(int place, int track, int creep)
            throws UnsupportedOperationException, IllegalArgumentException, IllegalStateException {
        Heads heads = theDisc().heads;
        if (!heads.code.hasPlace(place) || !heads.code.hasTrack(track) || !isWithin(creep, 0, MOST_CREEP)) {
            throw new IllegalArgumentException("no such place or track, or it creeps too far");
        }
        if (heads.speckCount >= MOST_SPECKS) {
            throw new IllegalStateException("there are 6 specks");
        }
        heads.dirty(place, track, creep);
        return heads.speckCount;
    }

    public int clean() throws UnsupportedOperationException {
        Heads heads = theDisc().heads;
        int before = heads.speckCount;
        heads.speckCount = 0;
        return before;
    }

    public int stick(int head, int track, int as) throws UnsupportedOperationException, IllegalArgumentException {
        Heads heads = theDisc().heads;
        if (!isHead(head) || !heads.code.hasTrack(track) || !isWithin(as, -1, 1)) {
            throw new IllegalArgumentException("no such head or track, or the number is not -1, 0 or 1");
        }
        int before = heads.stuckAs(head, track);
        heads.setStuck(head, track, as);
        return before;
    }

    public int seen(int head) throws UnsupportedOperationException, IllegalArgumentException {
        Disc asked = theDisc();
        if (!isHead(head)) {
            throw new IllegalArgumentException("no such head");
        }
        return asked.heads.wordUnder(head, asked.angle);
    }

    public int estimate(int head)
            throws UnsupportedOperationException, IllegalArgumentException, NoSuchElementException {
        Disc asked = theDisc();
        if (!isHead(head)) {
            throw new IllegalArgumentException("no such head");
        }
        int found = asked.heads.estimateAt(head, asked.angle);
        if (found == NONE) {
            throw new NoSuchElementException("the head has no estimate");
        }
        return found;
    }

    public int turn(int steps) throws UnsupportedOperationException, IllegalArgumentException {
        Disc turned = theDisc();
        if (!isWithin(steps, -MOST_TURNED, MOST_TURNED)) {
            throw new IllegalArgumentException("a turning has -500 to 500 steps");
        }
        turned.advance(steps);
        Reading reading = turned.reading;
        if (turned.isPowered && reading.state != 's') {
            reading.readAt(turned.heads, turned.angle, limit, tolerance);
            if (reading.state == 's') {
                stopCount++;
            }
        }
        return turned.angle;
    }

    // ---- readings

    public int setLimit(int steps) throws IllegalArgumentException {
        if (!isWithin(steps, 8, 400)) {
            throw new IllegalArgumentException("the limit is 8 to 400");
        }
        int before = limit;
        limit = steps;
        return before;
    }

    public int setTolerance(int steps) throws IllegalArgumentException {
        if (!isWithin(steps, 16, 200)) {
            throw new IllegalArgumentException("the tolerance is 16 to 200");
        }
        int before = tolerance;
        tolerance = steps;
        return before;
    }

    public char state() throws UnsupportedOperationException {
        return theDisc().reading.state;
    }

    public int told() throws UnsupportedOperationException {
        return theDisc().reading.told;
    }

    public int doubt() throws UnsupportedOperationException {
        Disc asked = theDisc();
        return asked.reading.doubtOn(asked.heads);
    }

    public boolean holds() throws UnsupportedOperationException {
        Disc asked = theDisc();
        return asked.reading.isRightAbout(asked.heads, asked.angle);
    }

    public int toldRounds() throws UnsupportedOperationException {
        return theDisc().reading.rounds;
    }

    public int stops() {
        return stopCount;
    }

    public boolean start() throws UnsupportedOperationException {
        Disc started = theDisc();
        if (!started.isPowered) {
            throw new UnsupportedOperationException("there is no power");
        }
        return started.startReading(tolerance);
    }

    public boolean power(boolean isOn) throws UnsupportedOperationException {
        Disc powered = theDisc();
        boolean wasOn = powered.isPowered;
        powered.isPowered = isOn;
        if (isOn && !wasOn && !powered.startReading(tolerance)) {
            powered.reading.state = 's';
            stopCount++;
        }
        return wasOn;
    }

    public double speed() throws UnsupportedOperationException, NoSuchElementException {
        Reading reading = theDisc().reading;
        if (reading.wayCount <= 0) {
            throw new NoSuchElementException("no ways are kept");
        }
        return (double) reading.sumOfWays() / (double) reading.wayCount;
    }

    public int wayAt(int index) throws UnsupportedOperationException, NoSuchElementException {
        Reading reading = theDisc().reading;
        if (!isWithin(index, 0, reading.wayCount - 1)) {
            throw new NoSuchElementException("no such way");
        }
        return reading.ways[index];
    }

    // ---- gears

    public int addGear(int teeth)
            throws UnsupportedOperationException, IllegalArgumentException, IllegalStateException {
        Gears gears = theDisc().gears;
        if (!isWithin(teeth, 2, 16)) {
            throw new IllegalArgumentException("a gear has 2 to 16 teeth");
        }
        if (gears.count >= MOST_GEARS) {
            throw new IllegalStateException("there are 3 gears");
        }
        return gears.mesh(teeth);
    }

    public int tooth(int gear) throws UnsupportedOperationException, IndexOutOfBoundsException {
        Disc asked = theDisc();
        if (!asked.gears.has(gear)) {
            throw new IndexOutOfBoundsException("no such gear");
        }
        return asked.gears.toothOf(gear, asked.rounds);
    }

    public int slip(int gear, int by)
            throws UnsupportedOperationException, IndexOutOfBoundsException, IllegalArgumentException {
        Disc asked = theDisc();
        if (!asked.gears.has(gear)) {
            throw new IndexOutOfBoundsException("no such gear");
        }
        if (!isWithin(by, -5, 5)) {
            throw new IllegalArgumentException("a gear slips by -5 to 5");
        }
        asked.gears.slips[gear] += by;
        return asked.gears.toothOf(gear, asked.rounds);
    }

    public int recover() throws UnsupportedOperationException, NoSuchElementException {
        Disc asked = theDisc();
        int found = asked.gears.roundsTold(asked.rounds);
        if (found == NONE) {
            throw new NoSuchElementException("no gears tell rounds");
        }
        return found;
    }

    // ---- frames

    public int send(int delay)
            throws UnsupportedOperationException, IllegalArgumentException, IllegalStateException {
        Reading reading = theDisc().reading;
        if (!isWithin(delay, 1, 9)) {
            throw new IllegalArgumentException("a delay is 1 to 9");
        }
        if (frames.count >= MOST_UNDER_WAY) {
            throw new IllegalStateException("9 frames are under way");
        }
        int number = 4 * reading.told + reading.stateNumber();
        int frame = number * FRAME_BITS + number % CHECK;
        frames.dispatch(frame, delay);
        return frame;
    }

    public int flip(int index, int bit) throws NoSuchElementException, IllegalArgumentException {
        if (!isWithin(index, 0, frames.count - 1)) {
            throw new NoSuchElementException("no such frame");
        }
        if (!isFrameBit(bit)) {
            throw new IllegalArgumentException("a bit is 0 to 15");
        }
        frames.underWay[index] ^= 1 << bit;
        return frames.underWay[index];
    }

    public int lose(int bit) throws IllegalArgumentException {
        if (!isFrameBit(bit)) {
            throw new IllegalArgumentException("a bit is 0 to 15");
        }
        return frames.dropWith(bit);
    }

    public int tick(int ticks) throws IllegalArgumentException {
        if (!isWithin(ticks, 1, 20)) {
            throw new IllegalArgumentException("ticks are 1 to 20");
        }
        int came = 0;
        for (int t = 0; t < ticks; t++) {
            came += frames.passTick();
        }
        return came;
    }

    public int take() throws NoSuchElementException {
        if (frames.arrivedCount <= 0) {
            throw new NoSuchElementException("no frame arrived");
        }
        return frames.takeFirst();
    }

    public int bad() {
        return frames.badCount;
    }

    // ---- the bench and faults

    public int bench() throws UnsupportedOperationException {
        return theDisc().writePage();
    }

    public int page(int place) throws UnsupportedOperationException, IllegalArgumentException {
        Disc asked = theDisc();
        if (!asked.heads.code.hasPlace(place)) {
            throw new IllegalArgumentException("no such place");
        }
        return asked.pageAt(place);
    }

    public int closing() throws UnsupportedOperationException {
        return theDisc().sumOfPage();
    }

    public int corrected() throws UnsupportedOperationException {
        Disc asked = theDisc();
        int told = asked.reading.told;
        return modulo(told - asked.pageAt(told / STEPS), asked.turn);
    }

    public int escapes() throws UnsupportedOperationException {
        Heads worn = theDisc().heads;
        Heads tried = new Heads(worn.code, worn.off);
        Reading reading = new Reading();
        int found = 0;
        for (int head = 0; head < HEADS; head++) {
            for (int track = 0; track < tried.code.tracks; track++) {
                for (int as = 0; as <= 1; as++) {
                    tried.setStuck(head, track, as);
                    if (isEscape(tried, reading)) {
                        found++;
                    }
                    tried.setStuck(head, track, -1);
                }
            }
        }
        return found;
    }

    // ---- sums

    public long checksum() {
        long sum = 7;
        for (int k = 0; k < typedCount; k++) {
            sum = 31 * sum + typed[k];
        }
        Disc summed = disc;
        if (summed != null) {
            sum = 31 * sum + summed.angle;
            sum = 31 * sum + summed.rounds;
            sum = 31 * sum + summed.reading.told;
            sum = 31 * sum + summed.reading.rounds;
            sum = 31 * sum + stopCount;
            sum = 31 * sum + summed.sumOfPage();
        }
        for (int k = 0; k < frames.count; k++) {
            sum = 31 * sum + frames.underWay[k];
        }
        return sum;
    }

    public float badShare() throws NoSuchElementException {
        if (frames.takenCount <= 0) {
            throw new NoSuchElementException("no frame was taken");
        }
        return (float) frames.badCount / (float) frames.takenCount;
    }

    public boolean isSound() {
        for (int k = 0; k < codeCount; k++) {
            Code code = codes[k];
            if (code != null && !isRing(code.words, code.words.length)) {
                return false;
            }
        }
        Disc checked = disc;
        if (checked == null) {
            return true;
        }
        Heads plain = new Heads(checked.heads.code, 0);
        return isWithin(checked.reading.told, 0, checked.turn - 1)
                && checked.gears.areInOrder(checked.rounds) && plain.tellMiddles();
    }

    // ---- what several calls need

    private static boolean isWithin(int number, int least, int most) {
        return number >= least && number <= most;
    }

    private static boolean isHead(int head) {
        return isWithin(head, 0, HEADS - 1);
    }

    private static boolean isFrameBit(int bit) {
        return isWithin(bit, 0, FRAME_BITS - 1);
    }

    /** From 0 on, also for a number below 0. */
    private static int modulo(int number, int by) {
        if (by <= 0) {
            return 0;
        }
        int rest = number % by;
        return rest < 0 ? rest + by : rest;
    }

    /** The way from an angle to another one, a half turn back at the most. */
    private static int wayBetween(int from, int to, int turn) {
        int half = turn / 2;
        return modulo(to - from + half, turn) - half;
    }

    private static int lengthBetween(int from, int to, int turn) {
        return Math.abs(wayBetween(from, to, turn));
    }

    /** Tells whether each word and the next one, the first one too behind the last one, differ by one bit. */
    private static boolean isRing(int[] words, int count) {
        for (int k = 0; k < count && k < words.length; k++) {
            int next = k + 1 < count && k + 1 < words.length ? k + 1 : 0;
            if (Integer.bitCount(words[k] ^ words[next]) != 1) {
                return false;
            }
        }
        return true;
    }

    private boolean typedIsRing() {
        if (typedCount < LEAST_WORDS || !isRing(typed, typedCount)) {
            return false;
        }
        for (int k = 0; k < typedCount; k++) {
            for (int later = k + 1; later < typedCount; later++) {
                if (typed[k] == typed[later]) {
                    return false;
                }
            }
        }
        return true;
    }

    private int keepCode(int[] words) {
        int number = codeCount;
        if (number < codes.length) {
            codes[number] = new Code(words);
            codeCount++;
        }
        return number;
    }

    private Code codeAt(int code) {
        Code found = isWithin(code, 0, codeCount - 1) ? codes[code] : null;
        if (found == null) {
            throw new IndexOutOfBoundsException("no such code");
        }
        return found;
    }

    private Disc theDisc() {
        Disc found = disc;
        if (found == null) {
            throw new UnsupportedOperationException("there is no disc");
        }
        return found;
    }

    /** Turns the heads with their single fault around once, and tells whether it misleads unseen. */
    private boolean isEscape(Heads tried, Reading reading) {
        reading.renew();
        for (int k = 1; k <= tried.code.words.length; k++) {
            int angle = modulo(k * STEPS, tried.turn);
            reading.readAt(tried, angle, limit, tolerance);
            if (reading.state == 's') {
                return false;
            }
            if (!reading.isRightAbout(tried, angle)) {
                return true;
            }
        }
        return false;
    }

    /** A ring of words. */
    private static final class Code {
        final int[] words;
        final int tracks;
        private final int[] places = new int[ALL_WORDS];

        Code(int[] ring) {
            words = ring;
            Arrays.fill(places, NONE);
            int highest = NONE;
            for (int k = 0; k < ring.length; k++) {
                int word = ring[k] & (ALL_WORDS - 1);
                places[word] = k;
                for (int track = 0; track < MOST_TRACKS; track++) {
                    if (((word >> track) & 1) == 1 && track > highest) {
                        highest = track;
                    }
                }
            }
            tracks = highest + 1;
        }

        boolean hasPlace(int place) {
            return place >= 0 && place < words.length;
        }

        boolean hasTrack(int track) {
            return track >= 0 && track < tracks;
        }

        int wordAt(int place) {
            return hasPlace(place) ? words[place] : 0;
        }

        int placeOf(int word) {
            return word >= 0 && word < places.length ? places[word] : NONE;
        }

        private int mark(int place, int track) {
            return (wordAt(place) >> track) & 1;
        }

        int changesOf(int track) {
            int count = 0;
            for (int k = 0; k < words.length; k++) {
                int next = modulo(k + 1, words.length);
                if (mark(k, track) != mark(next, track)) {
                    count++;
                }
            }
            return count;
        }

        boolean changesEvenly() {
            int least = words.length;
            int most = 0;
            for (int track = 0; track < tracks; track++) {
                int count = changesOf(track);
                least = Math.min(least, count);
                most = Math.max(most, count);
            }
            return most - least <= 2;
        }

        boolean repeatsFirstTrack() {
            for (int track = 1; track < tracks; track++) {
                if (!isFirstTrackMoved(track)) {
                    return false;
                }
            }
            return true;
        }

        private boolean isFirstTrackMoved(int track) {
            for (int from = 0; from < words.length; from++) {
                if (isFirstTrackFrom(track, from)) {
                    return true;
                }
            }
            return false;
        }

        private boolean isFirstTrackFrom(int track, int from) {
            for (int k = 0; k < words.length; k++) {
                if (mark(k, track) != mark(modulo(k + from, words.length), 0)) {
                    return false;
                }
            }
            return true;
        }
    }

    /** What the two heads see of a disc that is off its centre, and may be dirty. */
    private static final class Heads {
        final Code code;
        final int off;
        final int turn;
        int speckCount;
        private final int[] speckPlaces = new int[MOST_SPECKS];
        private final int[] speckTracks = new int[MOST_SPECKS];
        private final int[] speckCreeps = new int[MOST_SPECKS];
        /** For each head a bit for each track. */
        private final int[] stuckAsZero = new int[HEADS];
        private final int[] stuckAsOne = new int[HEADS];

        Heads(Code ring, int steps) {
            code = ring;
            off = steps;
            turn = STEPS * ring.words.length;
        }

        void dirty(int place, int track, int creep) {
            if (speckCount < MOST_SPECKS) {
                speckPlaces[speckCount] = place;
                speckTracks[speckCount] = track;
                speckCreeps[speckCount] = creep;
                speckCount++;
            }
        }

        void creep(int times) {
            for (int k = 0; k < speckCount; k++) {
                speckPlaces[k] = modulo(speckPlaces[k] + times * speckCreeps[k], code.words.length);
            }
        }

        int stuckAs(int head, int track) {
            if (!isHead(head)) {
                return -1;
            }
            if (((stuckAsOne[head] >> track) & 1) == 1) {
                return 1;
            }
            return ((stuckAsZero[head] >> track) & 1) == 1 ? 0 : -1;
        }

        void setStuck(int head, int track, int as) {
            if (isHead(head)) {
                int bit = 1 << track;
                stuckAsZero[head] = as == 0 ? stuckAsZero[head] | bit : stuckAsZero[head] & ~bit;
                stuckAsOne[head] = as == 1 ? stuckAsOne[head] | bit : stuckAsOne[head] & ~bit;
            }
        }

        private int errorAt(int angle) {
            int half = turn / 2;
            int quarter = turn / 4;
            if (quarter <= 0) {
                return 0;
            }
            int inHalf = angle < half ? angle : angle - half;
            int steps = inHalf < quarter ? inHalf : half - inHalf;
            int error = off * steps / quarter;
            return angle < half ? error : -error;
        }

        private int placeUnder(int head, int angle) {
            int error = errorAt(angle);
            int under = head == 0 ? angle + error : angle + turn / 2 - error;
            return modulo(under, turn) / STEPS;
        }

        int wordUnder(int head, int angle) {
            if (!isHead(head)) {
                return 0;
            }
            int place = placeUnder(head, angle);
            int word = code.wordAt(place);
            for (int k = 0; k < speckCount; k++) {
                if (speckPlaces[k] == place) {
                    word &= ~(1 << speckTracks[k]);
                }
            }
            return word & ~stuckAsZero[head] | stuckAsOne[head];
        }

        int estimateAt(int head, int angle) {
            int place = code.placeOf(wordUnder(head, angle));
            if (place == NONE) {
                return NONE;
            }
            int middle = middleOf(place);
            return head == 0 ? middle : modulo(middle - turn / 2, turn);
        }

        int middleOf(int place) {
            return place * STEPS + STEPS / 2;
        }

        /** The angle between the estimates of both heads. */
        int between(int first, int second) {
            return modulo(first + wayBetween(first, second, turn) / 2, turn);
        }

        int toldTogether(int angle) {
            int first = estimateAt(0, angle);
            int second = estimateAt(1, angle);
            return first == NONE || second == NONE ? NONE : between(first, second);
        }

        boolean tellMiddles() {
            for (int k = 0; k < code.words.length; k++) {
                if (toldTogether(middleOf(k)) != middleOf(k)) {
                    return false;
                }
            }
            return true;
        }
    }

    /** What is told of the angle, and how far it is believed. */
    private static final class Reading {
        char state = 't';
        int told;
        int rounds;
        final int[] ways = new int[MOST_WAYS];
        int wayCount;

        void renew() {
            state = 't';
            told = 0;
            rounds = 0;
            wayCount = 0;
        }

        void readAt(Heads heads, int angle, int limit, int tolerance) {
            int first = heads.estimateAt(0, angle);
            int second = heads.estimateAt(1, angle);
            boolean isFirst = isNear(first, limit, heads.turn);
            boolean isSecond = isNear(second, limit, heads.turn);
            if (isFirst && isSecond && lengthBetween(first, second, heads.turn) <= tolerance) {
                tell('t', heads.between(first, second), heads.turn);
            } else if (isFirst != isSecond) {
                tell('d', isFirst ? first : second, heads.turn);
            } else {
                state = 's';
            }
        }

        /** Reads without the limit, and tells whether it could. */
        boolean startAt(Heads heads, int angle, int tolerance) {
            int first = heads.estimateAt(0, angle);
            int second = heads.estimateAt(1, angle);
            if (first == NONE || second == NONE || lengthBetween(first, second, heads.turn) > tolerance) {
                return false;
            }
            tell('t', heads.between(first, second), heads.turn);
            wayCount = 0;
            return true;
        }

        private boolean isNear(int estimate, int limit, int turn) {
            return estimate != NONE && lengthBetween(told, estimate, turn) <= limit;
        }

        private void tell(char as, int angle, int turn) {
            int way = wayBetween(told, angle, turn);
            if (told + way >= turn) {
                rounds++;
            } else if (told + way < 0) {
                rounds--;
            }
            keepWay(way);
            state = as;
            told = angle;
        }

        private void keepWay(int way) {
            if (wayCount >= ways.length) {
                System.arraycopy(ways, 1, ways, 0, ways.length - 1);
                wayCount = ways.length - 1;
            }
            ways[wayCount] = way;
            wayCount++;
        }

        int sumOfWays() {
            int sum = 0;
            for (int k = 0; k < wayCount; k++) {
                sum += ways[k];
            }
            return sum;
        }

        int stateNumber() {
            return state == 't' ? 0 : state == 'd' ? 1 : 2;
        }

        int doubtOn(Heads heads) {
            if (state == 't') {
                return SURE_DOUBT;
            }
            return state == 'd' ? SURE_DOUBT + heads.off : heads.turn / 2;
        }

        boolean isRightAbout(Heads heads, int angle) {
            return lengthBetween(angle, told, heads.turn) <= doubtOn(heads);
        }
    }

    /** The small gears that go with the true rounds. */
    private static final class Gears {
        int count;
        final int[] slips = new int[MOST_GEARS];
        private final int[] teeth = new int[MOST_GEARS];

        boolean has(int gear) {
            return isWithin(gear, 0, count - 1);
        }

        int mesh(int number) {
            int gear = count;
            if (gear < MOST_GEARS) {
                teeth[gear] = number;
                count++;
            }
            return gear;
        }

        int toothOf(int gear, int rounds) {
            return has(gear) ? modulo(rounds + slips[gear], teeth[gear]) : 0;
        }

        int roundsTold(int rounds) {
            if (count <= 0 || teeth[0] <= 0) {
                return NONE;
            }
            // Only these leave the tooth of the first gear.
            for (int number = toothOf(0, rounds); number <= MOST_ROUNDS; number += teeth[0]) {
                if (leavesAllTeeth(number, rounds)) {
                    return number;
                }
            }
            return NONE;
        }

        private boolean leavesAllTeeth(int number, int rounds) {
            for (int k = 0; k < count; k++) {
                if (modulo(number, teeth[k]) != toothOf(k, rounds)) {
                    return false;
                }
            }
            return true;
        }

        boolean areInOrder(int rounds) {
            for (int k = 0; k < count; k++) {
                if (toothOf(k, rounds) >= teeth[k]) {
                    return false;
                }
            }
            return true;
        }
    }

    /** Frames under way, those that arrived, and how many of those taken did not hold. */
    private static final class Frames {
        int count;
        final int[] underWay = new int[MOST_UNDER_WAY];
        int arrivedCount;
        int takenCount;
        int badCount;
        private final int[] ticksLeft = new int[MOST_UNDER_WAY];
        private final int[] arrived = new int[MOST_ARRIVED];

        void clear() {
            count = 0;
            arrivedCount = 0;
        }

        void dispatch(int frame, int delay) {
            if (count < MOST_UNDER_WAY) {
                underWay[count] = frame;
                ticksLeft[count] = delay;
                count++;
            }
        }

        int dropWith(int bit) {
            int before = count;
            int kept = 0;
            for (int k = 0; k < before; k++) {
                if (((underWay[k] >> bit) & 1) == 0) {
                    underWay[kept] = underWay[k];
                    ticksLeft[kept] = ticksLeft[k];
                    kept++;
                }
            }
            count = kept;
            return before - kept;
        }

        /** Lets one tick go by, and returns how many frames arrived. */
        int passTick() {
            int before = count;
            int kept = 0;
            for (int k = 0; k < before; k++) {
                if (ticksLeft[k] > 1) {
                    underWay[kept] = underWay[k];
                    ticksLeft[kept] = ticksLeft[k] - 1;
                    kept++;
                } else {
                    arrive(underWay[k]);
                }
            }
            count = kept;
            return before - kept;
        }

        private void arrive(int frame) {
            if (arrivedCount < arrived.length) {
                arrived[arrivedCount] = frame;
                arrivedCount++;
            }
        }

        /** Returns the angle that it tells, none if its check does not hold. */
        int takeFirst() {
            if (arrivedCount <= 0) {
                return NONE;
            }
            int frame = arrived[0];
            arrivedCount--;
            System.arraycopy(arrived, 1, arrived, 0, arrivedCount);
            takenCount++;
            int number = frame / FRAME_BITS;
            if (frame % FRAME_BITS != number % CHECK) {
                badCount++;
                return NONE;
            }
            return number / 4;
        }
    }

    /** A disc that is put on, with all that goes when another one is put on. */
    private static final class Disc {
        final int turn;
        final Heads heads;
        final Reading reading = new Reading();
        final Gears gears = new Gears();
        int angle;
        int rounds;
        boolean isPowered = true;
        private final int[] page;

        Disc(Code code, int off) {
            heads = new Heads(code, off);
            turn = heads.turn;
            page = new int[code.words.length];
        }

        void advance(int steps) {
            int sum = angle + steps;
            angle = modulo(sum, turn);
            int over = turn <= 0 ? 0 : (sum - angle) / turn;
            rounds += over;
            if (over > 0) {
                heads.creep(over);
            }
        }

        boolean startReading(int tolerance) {
            if (!reading.startAt(heads, angle, tolerance)) {
                return false;
            }
            int found = gears.roundsTold(rounds);
            if (found != NONE) {
                reading.rounds = found;
            }
            return true;
        }

        /** Returns the longest way in the page. */
        int writePage() {
            int longest = 0;
            for (int k = 0; k < page.length; k++) {
                int middle = heads.middleOf(k);
                int together = heads.toldTogether(middle);
                page[k] = together == NONE ? 0 : wayBetween(middle, together, turn);
                longest = Math.max(longest, Math.abs(page[k]));
            }
            return longest;
        }

        int pageAt(int place) {
            return isWithin(place, 0, page.length - 1) ? page[place] : 0;
        }

        int sumOfPage() {
            int sum = 0;
            for (int k = 0; k < page.length; k++) {
                sum += page[k];
            }
            return sum;
        }
    }
}
