import java.util.ArrayList;
import java.util.Arrays;
import java.util.LinkedHashSet;
import java.util.List;
import java.util.NoSuchElementException;
import java.util.Set;

/**
 * The document told a second time, as slowly and as near to its words as can be: steps are turned one by one, ways
 * are looked for, tracks are texts. FuzzTest compares it with the class, call for call.
 */
final class Model {

    private final List<Integer> typed = new ArrayList<>();
    private final List<List<Integer>> codes = new ArrayList<>();
    private Disc disc;
    private int limit = 40;
    private int tolerance = 48;
    private int stops;
    private int taken;
    private int bad;
    private List<int[]> underWay = new ArrayList<>();
    private List<Integer> arrived = new ArrayList<>();

    private static final class Disc {
        List<Integer> code;
        int off;
        int angle;
        int rounds;
        List<int[]> specks = new ArrayList<>();
        Integer[][] stuck = new Integer[2][8];
        char state = 't';
        int told;
        int toldRounds;
        List<Integer> ways = new ArrayList<>();
        boolean power = true;
        List<int[]> gears = new ArrayList<>();
        int[] page;

        Disc(List<Integer> code, int off) {
            this.code = code;
            this.off = off;
            page = new int[code.size()];
        }

        int turn() {
            return 16 * code.size();
        }

        int within(int angle) {
            int result = angle;
            while (result < 0) {
                result += turn();
            }
            while (result >= turn()) {
                result -= turn();
            }
            return result;
        }

        int way(int from, int to) {
            int half = turn() / 2;
            for (int way = -half; way < half; way++) {
                if (within(from + way) == within(to)) {
                    return way;
                }
            }
            throw new AssertionError();
        }

        int error(int at) {
            int half = turn() / 2;
            int steps = turn();
            for (int end : new int[] {0, half, turn()}) {
                steps = Math.min(steps, Math.abs(at - end));
            }
            int size = (int) ((double) off * steps / (4 * code.size()));
            return at > half ? -size : size;
        }

        int seen(int head, int at) {
            int under = head == 0 ? at + error(at) : at + turn() / 2 - error(at);
            int place = within(under) / 16;
            StringBuilder marks = new StringBuilder();
            for (int track = 7; track >= 0; track--) {
                int mark = code.get(place) / (1 << track) % 2;
                for (int[] speck : specks) {
                    if (speck[0] == place && speck[1] == track) {
                        mark = 0;
                    }
                }
                Integer as = stuck[head][track];
                marks.append(as == null ? mark : as);
            }
            return Integer.parseInt(marks.toString(), 2);
        }

        Integer estimate(int head, int at) {
            int place = code.indexOf(seen(head, at));
            if (place < 0) {
                return null;
            }
            return within(16 * place + 8 - (head == 1 ? turn() / 2 : 0));
        }

        int together(int first, int second) {
            return within(first + way(first, second) / 2);
        }

        void tell(int angle) {
            int way = way(told, angle);
            toldRounds += told + way >= turn() ? 1 : told + way < 0 ? -1 : 0;
            told = angle;
            ways.add(way);
            if (ways.size() > 8) {
                ways.remove(0);
            }
        }

        void read(int limit, int tolerance) {
            List<Integer> believed = new ArrayList<>();
            for (int head = 0; head < 2; head++) {
                Integer one = estimate(head, angle);
                if (one != null && Math.abs(way(told, one)) <= limit) {
                    believed.add(one);
                }
            }
            if (believed.size() == 2 && Math.abs(way(believed.get(0), believed.get(1))) <= tolerance) {
                state = 't';
                tell(together(believed.get(0), believed.get(1)));
            } else if (believed.size() == 1) {
                state = 'd';
                tell(believed.get(0));
            } else {
                state = 's';
            }
        }

        boolean start(int tolerance) {
            Integer first = estimate(0, angle);
            Integer second = estimate(1, angle);
            if (first == null || second == null || Math.abs(way(first, second)) > tolerance) {
                return false;
            }
            tell(together(first, second));
            state = 't';
            ways.clear();
            Integer rounds = roundsOfGears();
            if (rounds != null) {
                toldRounds = rounds;
            }
            return true;
        }

        void turnBy(int steps) {
            for (int k = 0; k < Math.abs(steps); k++) {
                angle += steps > 0 ? 1 : -1;
                if (angle == turn()) {
                    angle = 0;
                    rounds++;
                    for (int[] speck : specks) {
                        speck[0] = (speck[0] + speck[2]) % code.size();
                    }
                } else if (angle < 0) {
                    angle = turn() - 1;
                    rounds--;
                }
            }
        }

        int doubt() {
            return state == 't' ? 16 : state == 'd' ? 16 + off : 8 * code.size();
        }

        boolean holds() {
            return Math.abs(way(angle, told)) <= doubt();
        }

        int tooth(int gear) {
            int tooth = rounds + gears.get(gear)[1];
            while (tooth < 0) {
                tooth += gears.get(gear)[0];
            }
            return tooth % gears.get(gear)[0];
        }

        Integer roundsOfGears() {
            for (int number = 0; number <= 4095 && !gears.isEmpty(); number++) {
                boolean fits = true;
                for (int gear = 0; gear < gears.size(); gear++) {
                    fits &= number % gears.get(gear)[0] == tooth(gear);
                }
                if (fits) {
                    return number;
                }
            }
            return null;
        }
    }

    private static void argument(boolean isGood) {
        if (!isGood) {
            throw new IllegalArgumentException();
        }
    }

    private static void state(boolean isGood) {
        if (!isGood) {
            throw new IllegalStateException();
        }
    }

    private static void index(boolean isGood) {
        if (!isGood) {
            throw new IndexOutOfBoundsException();
        }
    }

    private static void element(boolean isGood) {
        if (!isGood) {
            throw new NoSuchElementException();
        }
    }

    private static void supported(boolean isGood) {
        if (!isGood) {
            throw new UnsupportedOperationException();
        }
    }

    private List<Integer> code(int code) {
        index(code >= 0 && code < codes.size());
        return codes.get(code);
    }

    private Disc disc() {
        supported(disc != null);
        return disc;
    }

    private static int trackCount(List<Integer> code) {
        int count = 0;
        for (int word : code) {
            count = Math.max(count, Integer.toBinaryString(word).length());
        }
        return count;
    }

    private static String track(List<Integer> code, int track) {
        StringBuilder marks = new StringBuilder();
        for (int word : code) {
            marks.append((char) ('0' + word / (1 << track) % 2));
        }
        return marks.toString();
    }

    private static int changeCount(List<Integer> code, int track) {
        String marks = track(code, track);
        String around = marks + marks.charAt(0);
        int count = 0;
        for (int k = 0; k < marks.length(); k++) {
            count += around.charAt(k) == around.charAt(k + 1) ? 0 : 1;
        }
        return count;
    }

    public int type(int word) {
        argument(word >= 0 && word <= 255);
        state(typed.size() < 64);
        typed.add(word);
        return typed.size();
    }

    public int wipe() {
        int count = typed.size();
        typed.clear();
        return count;
    }

    public int ring() {
        Set<Integer> unlike = new LinkedHashSet<>(typed);
        boolean isRing = typed.size() >= 4 && unlike.size() == typed.size();
        for (int k = 0; k < typed.size(); k++) {
            int both = typed.get(k) ^ typed.get((k + 1) % typed.size());
            isRing &= Integer.toBinaryString(both).replace("0", "").length() == 1;
        }
        supported(isRing);
        state(codes.size() < 4);
        codes.add(new ArrayList<>(typed));
        typed.clear();
        return codes.size() - 1;
    }

    public int reflected(int bits) {
        argument(bits >= 2 && bits <= 6);
        state(codes.size() < 4);
        List<Integer> words = new ArrayList<>(List.of(0, 1));
        for (int bit = 1; bit < bits; bit++) {
            for (int k = (1 << bit) - 1; k >= 0; k--) {
                words.add(words.get(k) + (1 << bit));
            }
        }
        codes.add(words);
        return codes.size() - 1;
    }

    public int words(int code) {
        return code(code).size();
    }

    public int tracks(int code) {
        return trackCount(code(code));
    }

    public int word(int code, int place) {
        List<Integer> asked = code(code);
        argument(place >= 0 && place < asked.size());
        return asked.get(place);
    }

    public int place(int code, int word) {
        List<Integer> asked = code(code);
        argument(word >= 0 && word <= 255);
        element(asked.contains(word));
        return asked.indexOf(word);
    }

    public int changes(int code, int track) {
        List<Integer> asked = code(code);
        argument(track >= 0 && track < trackCount(asked));
        return changeCount(asked, track);
    }

    public boolean isBalanced(int code) {
        List<Integer> asked = code(code);
        for (int one = 0; one < trackCount(asked); one++) {
            for (int other = 0; other < trackCount(asked); other++) {
                if (changeCount(asked, one) - changeCount(asked, other) > 2) {
                    return false;
                }
            }
        }
        return true;
    }

    public boolean isOneTrack(int code) {
        List<Integer> asked = code(code);
        for (int one = 0; one < trackCount(asked); one++) {
            if (!(track(asked, 0) + track(asked, 0)).contains(track(asked, one))) {
                return false;
            }
        }
        return true;
    }

    public int setDisc(int code, int off) {
        List<Integer> asked = code(code);
        argument(off >= 0 && off <= 40);
        disc = new Disc(asked, off);
        underWay = new ArrayList<>();
        arrived = new ArrayList<>();
        return disc.turn();
    }

    public int angle() {
        return disc().angle;
    }

    public int trueRounds() {
        return disc().rounds;
    }

    public int addSpeck(int place, int track, int creep) {
        Disc on = disc();
        argument(place >= 0 && place < on.code.size());
        argument(track >= 0 && track < trackCount(on.code));
        argument(creep >= 0 && creep <= 9);
        state(on.specks.size() < 6);
        on.specks.add(new int[] {place, track, creep});
        return on.specks.size();
    }

    public int clean() {
        int count = disc().specks.size();
        disc().specks.clear();
        return count;
    }

    public int stick(int head, int track, int as) {
        Disc on = disc();
        argument(head == 0 || head == 1);
        argument(track >= 0 && track < trackCount(on.code));
        argument(as >= -1 && as <= 1);
        Integer before = on.stuck[head][track];
        on.stuck[head][track] = as < 0 ? null : Integer.valueOf(as);
        return before == null ? -1 : before;
    }

    public int seen(int head) {
        Disc on = disc();
        argument(head == 0 || head == 1);
        return on.seen(head, on.angle);
    }

    public int estimate(int head) {
        Disc on = disc();
        argument(head == 0 || head == 1);
        element(on.estimate(head, on.angle) != null);
        return on.estimate(head, on.angle);
    }

    public int turn(int steps) {
        Disc on = disc();
        argument(steps >= -500 && steps <= 500);
        on.turnBy(steps);
        if (on.power && on.state != 's') {
            on.read(limit, tolerance);
            stops += on.state == 's' ? 1 : 0;
        }
        return on.angle;
    }

    public int setLimit(int steps) {
        argument(steps >= 8 && steps <= 400);
        int before = limit;
        limit = steps;
        return before;
    }

    public int setTolerance(int steps) {
        argument(steps >= 16 && steps <= 200);
        int before = tolerance;
        tolerance = steps;
        return before;
    }

    public char state() {
        return disc().state;
    }

    public int told() {
        return disc().told;
    }

    public int doubt() {
        return disc().doubt();
    }

    public boolean holds() {
        return disc().holds();
    }

    public int toldRounds() {
        return disc().toldRounds;
    }

    public int stops() {
        return stops;
    }

    public boolean start() {
        supported(disc().power);
        return disc.start(tolerance);
    }

    public boolean power(boolean isOn) {
        boolean before = disc().power;
        disc.power = isOn;
        if (isOn && !before && !disc.start(tolerance)) {
            disc.state = 's';
            stops++;
        }
        return before;
    }

    public double speed() {
        List<Integer> ways = disc().ways;
        element(!ways.isEmpty());
        int sum = 0;
        for (int way : ways) {
            sum += way;
        }
        return (double) sum / (double) ways.size();
    }

    public int wayAt(int index) {
        List<Integer> ways = disc().ways;
        element(index >= 0 && index < ways.size());
        return ways.get(index);
    }

    public int addGear(int teeth) {
        List<int[]> gears = disc().gears;
        argument(teeth >= 2 && teeth <= 16);
        state(gears.size() < 3);
        gears.add(new int[] {teeth, 0});
        return gears.size() - 1;
    }

    public int tooth(int gear) {
        Disc on = disc();
        index(gear >= 0 && gear < on.gears.size());
        return on.tooth(gear);
    }

    public int slip(int gear, int by) {
        Disc on = disc();
        index(gear >= 0 && gear < on.gears.size());
        argument(by >= -5 && by <= 5);
        on.gears.get(gear)[1] += by;
        return on.tooth(gear);
    }

    public int recover() {
        Integer rounds = disc().roundsOfGears();
        element(rounds != null);
        return rounds;
    }

    public int send(int delay) {
        Disc on = disc();
        argument(delay >= 1 && delay <= 9);
        state(underWay.size() < 9);
        int number = 4 * on.told + "tds".indexOf(on.state);
        int frame = number * 16 + number % 13;
        underWay.add(new int[] {frame, delay});
        return frame;
    }

    public int flip(int index, int bit) {
        element(index >= 0 && index < underWay.size());
        argument(bit >= 0 && bit <= 15);
        int[] frame = underWay.get(index);
        boolean isSet = frame[0] / (1 << bit) % 2 == 1;
        frame[0] += isSet ? -(1 << bit) : 1 << bit;
        return frame[0];
    }

    public int lose(int bit) {
        argument(bit >= 0 && bit <= 15);
        int before = underWay.size();
        underWay.removeIf(frame -> frame[0] / (1 << bit) % 2 == 1);
        return before - underWay.size();
    }

    public int tick(int ticks) {
        argument(ticks >= 1 && ticks <= 20);
        int before = underWay.size();
        for (int k = 0; k < ticks; k++) {
            for (int[] frame : underWay) {
                frame[1]--;
                if (frame[1] == 0) {
                    arrived.add(frame[0]);
                }
            }
            underWay.removeIf(frame -> frame[1] == 0);
        }
        return before - underWay.size();
    }

    public int take() {
        element(!arrived.isEmpty());
        int frame = arrived.remove(0);
        taken++;
        if (frame % 16 == frame / 16 % 13) {
            return frame / 64;
        }
        bad++;
        return -1;
    }

    public int bad() {
        return bad;
    }

    public int bench() {
        Disc on = disc();
        int longest = 0;
        for (int place = 0; place < on.page.length; place++) {
            int middle = 16 * place + 8;
            Integer first = on.estimate(0, middle);
            Integer second = on.estimate(1, middle);
            boolean both = first != null && second != null;
            on.page[place] = both ? on.way(middle, on.together(first, second)) : 0;
            longest = Math.max(longest, Math.abs(on.page[place]));
        }
        return longest;
    }

    public int page(int place) {
        Disc on = disc();
        argument(place >= 0 && place < on.page.length);
        return on.page[place];
    }

    public int closing() {
        return Arrays.stream(disc().page).sum();
    }

    public int corrected() {
        Disc on = disc();
        return on.within(on.told - on.page[on.told / 16]);
    }

    public int escapes() {
        Disc on = disc();
        int count = 0;
        for (int fault = 0; fault < 4 * trackCount(on.code); fault++) {
            Disc tried = new Disc(on.code, on.off);
            tried.stuck[fault % 2][fault / 4] = fault / 2 % 2;
            boolean escapes = false;
            for (int k = 0; k < on.code.size() && tried.state != 's'; k++) {
                tried.turnBy(16);
                tried.read(limit, tolerance);
                escapes |= tried.state != 's' && !tried.holds();
            }
            count += escapes ? 1 : 0;
        }
        return count;
    }

    public long checksum() {
        List<Integer> parts = new ArrayList<>(typed);
        if (disc != null) {
            parts.addAll(List.of(disc.angle, disc.rounds, disc.told, disc.toldRounds, stops, closing()));
        }
        for (int[] frame : underWay) {
            parts.add(frame[0]);
        }
        long sum = 7;
        for (int part : parts) {
            sum = sum * 31 + part;
        }
        return sum;
    }

    public float badShare() {
        element(taken > 0);
        return (float) bad / (float) taken;
    }

    public boolean isSound() {
        return true;
    }
}
