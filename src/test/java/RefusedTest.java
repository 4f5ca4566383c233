import java.lang.reflect.InvocationTargetException;
import java.lang.reflect.Method;
import java.lang.reflect.Modifier;
import java.util.ArrayList;
import java.util.Arrays;
import java.util.Comparator;
import java.util.LinkedHashMap;
import java.util.List;
import java.util.Map;
import java.util.function.Supplier;

/**
 * The paragraph "Exceptions". Of each state there are twins; one of them makes calls that throw, and then both must
 * answer alike, whatever they are asked.
 */
public final class RefusedTest {

    private static final Check check = new Check("refused");

    /** The edges of all ranges of the document, and the numbers beside them. */
    private static final int[] NUMBERS = {
        Integer.MIN_VALUE, -501, -500, -6, -5, -2, -1, 0, 1, 2, 3, 4, 5, 6, 7, 8, 9, 10, 15, 16, 17, 20, 21, 40, 41,
        63, 64, 200, 201, 255, 256, 400, 401, 500, 501, Integer.MAX_VALUE,
    };
    private static final int[] FEW = {Integer.MIN_VALUE, -1, 0, 1, 2, 3, 6, 10, 256, Integer.MAX_VALUE};

    public static void main(String[] args) {
        for (Map.Entry<String, Supplier<Ringtrack>> state : states().entrySet()) {
            changesNothing(state.getKey(), state.getValue());
        }
        firstOfCodes();
        firstWithoutDisc();
        firstOfDiscs();
        firstOfFrames();
        check.end();
    }

    // ---- states of many kinds

    private static Ringtrack six() {
        Ringtrack x = Rings.typedDisc(3, Rings.SIX);
        x.reflected(2);
        return x;
    }

    private static Ringtrack fourCodes(int... words) {
        Ringtrack x = new Ringtrack();
        for (int k = 0; k < 4; k++) {
            x.reflected(2);
        }
        Rings.typeAll(x, words);
        return x;
    }

    private static Ringtrack manyTyped(int count) {
        Ringtrack x = new Ringtrack();
        for (int k = 0; k < count; k++) {
            x.type(k % 256 ^ k % 256 / 2);
        }
        return x;
    }

    /** Something of everything. */
    private static Ringtrack worn() {
        Ringtrack x = six();
        Rings.typeAll(x, 0, 1, 3);
        x.setLimit(50);
        x.setTolerance(60);
        x.addSpeck(4, 2, 1);
        x.addSpeck(1, 0, 2);
        x.stick(1, 1, 1);
        x.bench();
        x.turn(16);
        x.turn(-30);
        x.turn(20);
        x.addGear(5);
        x.addGear(7);
        x.slip(1, -3);
        x.send(1);
        x.send(3);
        x.send(2);
        x.flip(1, 9);
        x.send(1);
        x.flip(3, 2);
        x.tick(1);
        x.take();
        return x;
    }

    private static Ringtrack fullOfAll() {
        Ringtrack x = six();
        x.turn(1);
        for (int k = 0; k < 6; k++) {
            x.addSpeck(k, k % 3, k);
        }
        for (int k = 0; k < 3; k++) {
            x.addGear(4 + k);
            x.slip(k, k);
        }
        for (int k = 1; k <= 9; k++) {
            x.send(k);
        }
        x.reflected(3);
        x.reflected(4);
        Rings.typeAll(x, Rings.SQUARE);
        return x;
    }

    /** Neither head has an estimate. */
    private static Ringtrack stopped() {
        Ringtrack x = six();
        x.turn(16);
        x.turn(-16);
        x.stick(0, 1, 1);
        x.stick(1, 1, 0);
        x.turn(0);
        x.send(2);
        return x;
    }

    private static Ringtrack without(Ringtrack x) {
        x.power(false);
        x.turn(100);
        return x;
    }

    private static Map<String, Supplier<Ringtrack>> states() {
        Map<String, Supplier<Ringtrack>> states = new LinkedHashMap<>();
        states.put("a new object", Ringtrack::new);
        states.put("three typed words", () -> manyTyped(3));
        states.put("64 typed words", () -> manyTyped(64));
        states.put("one code", () -> Rings.ofTyped(Rings.SIX));
        states.put("four codes", () -> fourCodes());
        states.put("four codes and a ring", () -> fourCodes(Rings.SIX));
        states.put("four codes and no ring", () -> fourCodes(0, 1, 3));
        states.put("a new disc", RefusedTest::six);
        states.put("a worn disc", RefusedTest::worn);
        states.put("a worn disc without power", () -> without(worn()));
        states.put("six specks, three gears, nine frames, four codes", RefusedTest::fullOfAll);
        states.put("a stopped disc", RefusedTest::stopped);
        states.put("a stopped disc without power", () -> without(stopped()));
        return states;
    }

    // ---- a method that throws an exception changes nothing

    private static List<Method> face() {
        List<Method> methods = new ArrayList<>();
        for (Method method : Ringtrack.class.getDeclaredMethods()) {
            if (Modifier.isPublic(method.getModifiers())) {
                methods.add(method);
            }
        }
        methods.sort(Comparator.comparing(Method::getName));
        return methods;
    }

    /** All numbers for each argument; for more than one argument fewer of them. */
    private static List<Object[]> argumentsOf(Method method) {
        List<Object[]> all = new ArrayList<>();
        all.add(new Object[0]);
        for (Class<?> type : method.getParameterTypes()) {
            List<Object[]> longer = new ArrayList<>();
            for (Object[] before : all) {
                if (type == boolean.class) {
                    longer.add(with(before, true));
                    longer.add(with(before, false));
                } else {
                    for (int number : method.getParameterCount() == 1 ? NUMBERS : FEW) {
                        longer.add(with(before, number));
                    }
                }
            }
            all = longer;
        }
        return all;
    }

    private static Object[] with(Object[] before, Object next) {
        Object[] longer = Arrays.copyOf(before, before.length + 1);
        longer[before.length] = next;
        return longer;
    }

    private static boolean throwsIn(Ringtrack x, Method method, Object[] arguments) {
        try {
            method.invoke(x, arguments);
            return false;
        } catch (InvocationTargetException e) {
            return true;
        } catch (IllegalAccessException e) {
            throw new AssertionError(e);
        }
    }

    /** Each call that throws in this state is made of one twin, and of another one all of them, one after another. */
    private static void changesNothing(String state, Supplier<Ringtrack> fresh) {
        check.says("A method that throws an exception changes nothing.");
        List<String> due = Revealed.of(fresh.get());
        for (Method method : face()) {
            Ringtrack all = fresh.get();
            int refused = 0;
            for (Object[] arguments : argumentsOf(method)) {
                Ringtrack one = fresh.get();
                if (throwsIn(one, method, arguments)) {
                    String call = method.getName() + Arrays.toString(arguments);
                    alike(state + " behind " + call, Revealed.of(one), due);
                    if (refused < 100) {
                        throwsIn(all, method, arguments);
                    }
                    refused++;
                }
            }
            if (refused > 0) {
                alike(state + " behind each refused " + method.getName(), Revealed.of(all), due);
            }
        }
    }

    /** Tells the first answer that is not alike. */
    private static void alike(String when, List<String> got, List<String> due) {
        for (int k = 0; k < due.size(); k++) {
            if (!got.get(k).equals(due.get(k))) {
                check.same(when, got.get(k), due.get(k));
                return;
            }
        }
        check.same(when, got.size(), due.size());
    }

    // ---- the one that is listed first is thrown

    private static final String FIRST = "If several exceptions apply, the one that is listed first is thrown.";

    private static void firstOfCodes() {
        check.says(FIRST);
        Ringtrack typed = manyTyped(64);
        check.bad("type(-1) at 64", () -> typed.type(-1));
        check.bad("type(256) at 64", () -> typed.type(256));
        check.full("type(0) at 64", () -> typed.type(0));
        Ringtrack codes = fourCodes(0, 1, 3);
        check.unsupported("ring() of no ring at 4", () -> codes.ring());
        check.bad("reflected(1) at 4", () -> codes.reflected(1));
        check.bad("reflected(7) at 4", () -> codes.reflected(7));
        check.full("reflected(2) at 4", () -> codes.reflected(2));
        codes.type(2);
        check.full("ring() of a ring at 4", () -> codes.ring());
        check.unknown("word(4, 99)", () -> codes.word(4, 99));
        check.bad("word(3, 99)", () -> codes.word(3, 99));
        check.unknown("place(4, 256)", () -> codes.place(4, 256));
        check.unknown("place(-1, 99)", () -> codes.place(-1, 99));
        check.bad("place(3, 256)", () -> codes.place(3, 256));
        check.bad("place(3, -1)", () -> codes.place(3, -1));
        check.missing("place(3, 99)", () -> codes.place(3, 99));
        check.unknown("changes(4, 9)", () -> codes.changes(4, 9));
        check.bad("changes(3, 9)", () -> codes.changes(3, 9));
        check.unknown("setDisc(4, 41)", () -> codes.setDisc(4, 41));
        check.unknown("setDisc(-1, -1)", () -> codes.setDisc(-1, -1));
        check.bad("setDisc(3, 41)", () -> codes.setDisc(3, 41));
    }

    private static void firstWithoutDisc() {
        check.says(FIRST);
        Ringtrack x = Rings.ofReflected(2);
        check.unsupported("addSpeck(9, 9, 99)", () -> x.addSpeck(9, 9, 99));
        check.unsupported("stick(9, 9, 9)", () -> x.stick(9, 9, 9));
        check.unsupported("seen(9)", () -> x.seen(9));
        check.unsupported("estimate(9)", () -> x.estimate(9));
        check.unsupported("turn(999)", () -> x.turn(999));
        check.unsupported("speed()", () -> x.speed());
        check.unsupported("wayAt(9)", () -> x.wayAt(9));
        check.unsupported("addGear(99)", () -> x.addGear(99));
        check.unsupported("tooth(9)", () -> x.tooth(9));
        check.unsupported("slip(9, 9)", () -> x.slip(9, 9));
        check.unsupported("slip(0, 9)", () -> x.slip(0, 9));
        check.unsupported("recover()", () -> x.recover());
        check.unsupported("send(99)", () -> x.send(99));
        check.unsupported("page(9)", () -> x.page(9));
    }

    private static void firstOfDiscs() {
        check.says(FIRST);
        Ringtrack x = fullOfAll();
        check.bad("addSpeck(6, 0, 0) at 6", () -> x.addSpeck(6, 0, 0));
        check.bad("addSpeck(0, 3, 0) at 6", () -> x.addSpeck(0, 3, 0));
        check.bad("addSpeck(0, 0, 10) at 6", () -> x.addSpeck(0, 0, 10));
        check.full("addSpeck(0, 0, 0) at 6", () -> x.addSpeck(0, 0, 0));
        check.bad("addGear(17) at 3", () -> x.addGear(17));
        check.full("addGear(2) at 3", () -> x.addGear(2));
        check.unknown("slip(3, 6)", () -> x.slip(3, 6));
        check.bad("slip(2, 6)", () -> x.slip(2, 6));
        check.bad("send(10) at 9", () -> x.send(10));
        check.full("send(1) at 9", () -> x.send(1));
        Ringtrack blind = stopped();
        check.bad("estimate(2) with no estimate", () -> blind.estimate(2));
        check.missing("estimate(1) with no estimate", () -> blind.estimate(1));
    }

    private static void firstOfFrames() {
        check.says(FIRST);
        Ringtrack x = fullOfAll();
        check.missing("flip(9, 16)", () -> x.flip(9, 16));
        check.missing("flip(-1, -1)", () -> x.flip(-1, -1));
        check.bad("flip(8, 16)", () -> x.flip(8, 16));
        check.missing("flip(0, 16) of a new object", () -> new Ringtrack().flip(0, 16));
    }
}
