import java.lang.reflect.InvocationTargetException;
import java.lang.reflect.Method;
import java.util.ArrayList;
import java.util.Arrays;
import java.util.Comparator;
import java.util.List;
import java.util.Random;

/** Makes the same calls, drawn with seeds that stay the same, of the class and of the model, and compares answers. */
public final class FuzzTest {

    private static final Check check = new Check("fuzz");
    private static final int RUNS = 1500;
    private static final int CALLS = 300;

    private static final int[][] RINGS = {
        {0, 1, 3, 2},
        {0, 1, 3, 7, 6, 4},
        {0, 1, 3, 2, 6, 4},
        {0, 1, 3, 7, 15, 14, 12, 8},
        {0, 1, 3, 7, 15, 31, 30, 28, 24, 16},
        {0, 1, 3, 2, 6, 14, 12, 13, 9, 8},
        {0, 1, 3, 2, 6, 7, 5, 13, 15, 14, 10, 11, 9, 8},
        {0, 2, 3, 1, 5, 7, 15, 14, 6, 4, 12, 13, 9, 11, 10, 8},
    };

    private final Random random;
    private final Object tested = new Ringtrack();
    private final Object model = new Model();
    private final List<String> made = new ArrayList<>();

    private FuzzTest(long seed) {
        random = new Random(seed);
    }

    public static void main(String[] args) {
        Method[] face = face();
        for (int seed = 0; seed < RUNS; seed++) {
            if (!new FuzzTest(seed).isAlike(face)) {
                break;
            }
        }
        check.end();
    }

    private static Method[] face() {
        List<Method> methods = new ArrayList<>();
        for (Method method : Model.class.getDeclaredMethods()) {
            if (java.lang.reflect.Modifier.isPublic(method.getModifiers())) {
                methods.add(method);
            }
        }
        methods.sort(Comparator.comparing(Method::getName));
        return methods.toArray(new Method[0]);
    }

    private boolean isAlike(Method[] face) {
        prepare();
        for (int k = made.size(); k < CALLS; k++) {
            Method method = drawn(face);
            Object[] arguments = new Object[method.getParameterCount()];
            for (int at = 0; at < arguments.length; at++) {
                arguments[at] = method.getParameterTypes()[at] == boolean.class
                        ? (Object) random.nextBoolean() : (Object) argument(method.getName(), at);
            }
            if (!isAlike(method.getName(), arguments)) {
                return false;
            }
        }
        return true;
    }

    private void prepare() {
        int codes = random.nextInt(4);
        for (int k = 0; k < codes; k++) {
            if (random.nextBoolean()) {
                isAlike("reflected", 2 + random.nextInt(5));
            } else {
                typeRing();
                isAlike("ring");
            }
        }
        if (codes > 0 && random.nextInt(9) > 0) {
            isAlike("setDisc", random.nextInt(codes), random.nextInt(41));
        }
    }

    /** The bits of a known ring or of a drawn one are put elsewhere, and some turned. */
    private void typeRing() {
        int[] ring = random.nextBoolean() ? Rings.drawn(random) : RINGS[random.nextInt(RINGS.length)];
        List<Integer> bits = new ArrayList<>(List.of(0, 1, 2, 3, 4, 5, 6, 7));
        if (random.nextBoolean()) {
            java.util.Collections.shuffle(bits, random);
        }
        int turned = random.nextInt(3) == 0 ? random.nextInt(256) : 0;
        for (int word : ring) {
            int put = 0;
            for (int bit = 0; bit < 8; bit++) {
                put |= (word >> bit & 1) << bits.get(bit);
            }
            isAlike("type", put ^ turned);
        }
    }

    private Method drawn(Method[] face) {
        Method method = face[random.nextInt(face.length)];
        String name = random.nextInt(5) < 2 ? "turn" : random.nextInt(12) == 0 ? "send" : method.getName();
        boolean isRare = List.of("setDisc", "wipe", "reflected").contains(name) && random.nextInt(6) > 0;
        if (isRare) {
            name = "start";
        }
        for (Method one : face) {
            if (one.getName().equals(name)) {
                return one;
            }
        }
        return method;
    }

    private int near(int least, int most) {
        return switch (random.nextInt(24)) {
            case 0 -> least - 1;
            case 1 -> most + 1;
            case 2 -> least;
            case 3 -> most;
            case 4 -> random.nextInt(10) == 0 ? random.nextInt() : least;
            default -> least + random.nextInt(most - least + 1);
        };
    }

    private int argument(String name, int at) {
        int[][] ranges = switch (name) {
            case "type" -> new int[][] {{0, random.nextBoolean() ? 255 : 3}};
            case "reflected" -> new int[][] {{2, 6}};
            case "words", "tracks", "isBalanced", "isOneTrack" -> new int[][] {{0, 3}};
            case "word" -> new int[][] {{0, 2}, {0, random.nextBoolean() ? 63 : 5}};
            case "place" -> new int[][] {{0, 2}, {0, random.nextBoolean() ? 255 : 7}};
            case "changes" -> new int[][] {{0, 2}, {0, 7}};
            case "setDisc" -> new int[][] {{0, 2}, {0, 40}};
            case "addSpeck" -> new int[][] {{0, random.nextBoolean() ? 63 : 5}, {0, 3}, {0, 9}};
            case "stick" -> new int[][] {{0, 1}, {0, 3}, {-1, random.nextInt(3) == 0 ? 1 : -1}};
            case "seen", "estimate" -> new int[][] {{0, 1}};
            case "turn" -> new int[][] {random.nextInt(3) == 0 ? new int[] {-500, 500} : new int[] {-30, 40}};
            case "setLimit" -> new int[][] {{8, random.nextBoolean() ? 400 : 70}};
            case "setTolerance" -> new int[][] {{16, random.nextBoolean() ? 200 : 70}};
            case "wayAt" -> new int[][] {{0, 7}};
            case "addGear" -> new int[][] {{2, 16}};
            case "tooth" -> new int[][] {{0, 2}};
            case "slip" -> new int[][] {{0, 2}, {-5, 5}};
            case "send" -> new int[][] {{1, 9}};
            case "flip" -> new int[][] {{0, 4}, {0, 15}};
            case "lose" -> new int[][] {{0, 15}};
            case "tick" -> new int[][] {{1, random.nextInt(4) == 0 ? 20 : 3}};
            case "page" -> new int[][] {{0, random.nextBoolean() ? 63 : 5}};
            default -> throw new AssertionError(name);
        };
        return near(ranges[at][0], ranges[at][1]);
    }

    private boolean isAlike(String name, Object... arguments) {
        String call = name + Arrays.toString(arguments);
        made.add(call);
        Object due = answered(model, name, arguments);
        Object got = answered(tested, name, arguments);
        check.same(call, got, due);
        if (!due.equals(got)) {
            System.out.println("the calls: " + made);
            return false;
        }
        return true;
    }

    private static Object answered(Object asked, String name, Object... arguments) {
        Class<?>[] types = new Class<?>[arguments.length];
        for (int k = 0; k < types.length; k++) {
            types[k] = arguments[k] instanceof Boolean ? boolean.class : int.class;
        }
        try {
            Method method = asked.getClass().getDeclaredMethod(name, types);
            return method.invoke(asked, arguments);
        } catch (InvocationTargetException e) {
            return e.getCause().getClass();
        } catch (ReflectiveOperationException e) {
            throw new AssertionError(e);
        }
    }
}
