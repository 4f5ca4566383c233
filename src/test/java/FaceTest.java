import java.io.IOException;
import java.lang.reflect.Constructor;
import java.lang.reflect.Field;
import java.lang.reflect.Method;
import java.lang.reflect.Modifier;
import java.nio.file.Files;
import java.nio.file.Path;
import java.util.ArrayList;
import java.util.List;
import java.util.Set;
import java.util.TreeSet;
import java.util.regex.Matcher;
import java.util.regex.Pattern;

/** The public face, as the document gives it, and what LANGUAGE.md asks that can be seen from outside. */
public final class FaceTest {

    private static final Check check = new Check("face");

    private static final String[] FACE = {
        "int type(int) IllegalArgumentException IllegalStateException",
        "int wipe()",
        "int ring() UnsupportedOperationException IllegalStateException",
        "int reflected(int) IllegalArgumentException IllegalStateException",
        "int words(int) IndexOutOfBoundsException",
        "int tracks(int) IndexOutOfBoundsException",
        "int word(int,int) IndexOutOfBoundsException IllegalArgumentException",
        "int place(int,int) IndexOutOfBoundsException IllegalArgumentException NoSuchElementException",
        "int changes(int,int) IndexOutOfBoundsException IllegalArgumentException",
        "boolean isBalanced(int) IndexOutOfBoundsException",
        "boolean isOneTrack(int) IndexOutOfBoundsException",
        "int setDisc(int,int) IndexOutOfBoundsException IllegalArgumentException",
        "int angle() UnsupportedOperationException",
        "int trueRounds() UnsupportedOperationException",
        "int addSpeck(int,int,int) UnsupportedOperationException IllegalArgumentException IllegalStateException",
        "int clean() UnsupportedOperationException",
        "int stick(int,int,int) UnsupportedOperationException IllegalArgumentException",
        "int seen(int) UnsupportedOperationException IllegalArgumentException",
        "int estimate(int) UnsupportedOperationException IllegalArgumentException NoSuchElementException",
        "int turn(int) UnsupportedOperationException IllegalArgumentException",
        "int setLimit(int) IllegalArgumentException",
        "int setTolerance(int) IllegalArgumentException",
        "char state() UnsupportedOperationException",
        "int told() UnsupportedOperationException",
        "int doubt() UnsupportedOperationException",
        "boolean holds() UnsupportedOperationException",
        "int toldRounds() UnsupportedOperationException",
        "int stops()",
        "boolean start() UnsupportedOperationException",
        "boolean power(boolean) UnsupportedOperationException",
        "double speed() UnsupportedOperationException NoSuchElementException",
        "int wayAt(int) UnsupportedOperationException NoSuchElementException",
        "int addGear(int) UnsupportedOperationException IllegalArgumentException IllegalStateException",
        "int tooth(int) UnsupportedOperationException IndexOutOfBoundsException",
        "int slip(int,int) UnsupportedOperationException IndexOutOfBoundsException IllegalArgumentException",
        "int recover() UnsupportedOperationException NoSuchElementException",
        "int send(int) UnsupportedOperationException IllegalArgumentException IllegalStateException",
        "int flip(int,int) NoSuchElementException IllegalArgumentException",
        "int lose(int) IllegalArgumentException",
        "int tick(int) IllegalArgumentException",
        "int take() NoSuchElementException",
        "int bad()",
        "int bench() UnsupportedOperationException",
        "int page(int) UnsupportedOperationException IllegalArgumentException",
        "int closing() UnsupportedOperationException",
        "int corrected() UnsupportedOperationException",
        "int escapes() UnsupportedOperationException",
        "long checksum()",
        "float badShare() NoSuchElementException",
        "boolean isSound()",
    };

    public static void main(String[] args) throws IOException {
        methods();
        otherMembers();
        classesInside();
        namesOfClassesInside();
        String text = Files.readString(Path.of(args[0]));
        source(text);
        sizes(text.split("\n"));
        check.end();
    }

    private static String described(Method method) {
        List<String> types = new ArrayList<>();
        for (Class<?> type : method.getParameterTypes()) {
            types.add(type.getSimpleName());
        }
        StringBuilder text = new StringBuilder(method.getReturnType().getSimpleName());
        text.append(' ').append(method.getName()).append('(').append(String.join(",", types)).append(')');
        for (Class<?> thrown : method.getExceptionTypes()) {
            text.append(' ').append(thrown.getSimpleName());
        }
        return text.toString();
    }

    private static void methods() {
        Set<String> found = new TreeSet<>();
        for (Method method : Ringtrack.class.getDeclaredMethods()) {
            int modifiers = method.getModifiers();
            if (!Modifier.isPrivate(modifiers)) {
                check.same(method.getName() + " is public", Modifier.isPublic(modifiers), true);
                check.same(method.getName() + " is static", Modifier.isStatic(modifiers), false);
                found.add(described(method));
            }
        }
        check.same("the methods", found, new TreeSet<>(List.of(FACE)));
    }

    private static void otherMembers() {
        check.same("public and final", Ringtrack.class.getModifiers(), Modifier.PUBLIC | Modifier.FINAL);
        Constructor<?>[] constructors = Ringtrack.class.getDeclaredConstructors();
        check.same("how many constructors", constructors.length, 1);
        check.same("its modifiers", constructors[0].getModifiers(), Modifier.PUBLIC);
        check.same("its parameters", constructors[0].getParameterCount(), 0);
        int own = 0;
        for (Field field : Ringtrack.class.getDeclaredFields()) {
            int modifiers = field.getModifiers();
            check.same(field.getName() + " is private", Modifier.isPrivate(modifiers), true);
            check.same(field.getName() + " is final if static",
                    !Modifier.isStatic(modifiers) || Modifier.isFinal(modifiers), true);
            own += Modifier.isStatic(modifiers) ? 0 : 1;
        }
        check.same("at most 20 fields", own <= 20, true);
    }

    private static void classesInside() {
        Class<?>[] inside = Ringtrack.class.getDeclaredClasses();
        check.same("at most 12 classes", inside.length + 1 <= 12, true);
        for (Class<?> one : inside) {
            check.same(one.getSimpleName() + " is static", Modifier.isStatic(one.getModifiers()), true);
            check.same(one.getSimpleName() + " is public", Modifier.isPublic(one.getModifiers()), false);
            check.same(one.getSimpleName() + " has at most 20 fields", one.getDeclaredFields().length <= 20, true);
        }
    }

    private static void namesOfClassesInside() {
        Set<String> names = new TreeSet<>();
        for (String line : FACE) {
            names.add(line.substring(line.indexOf(' ') + 1, line.indexOf('(')));
        }
        List<Class<?>> all = new ArrayList<>(List.of(Ringtrack.class.getDeclaredClasses()));
        all.add(Ringtrack.class);
        for (Class<?> one : all) {
            for (Method method : one.getDeclaredMethods()) {
                check.same(method.getName() + " takes at most 7", method.getParameterCount() <= 7, true);
                boolean isFace = one == Ringtrack.class && Modifier.isPublic(method.getModifiers());
                check.same(method.getName() + " bears a name of its own",
                        isFace || !names.contains(method.getName()), true);
            }
        }
    }

    /** Not a parser: these words and signs stand nowhere in the source, not in comments either. */
    private static void source(String text) {
        String[] never = {"->", "::", "catch", "finally", "synchronized", "assert ", "instanceof",
            "Exact(", "package ", "System.out", "System.nano", "Random", "Thread", "/ 0"};
        for (String sign : never) {
            check.same("the source has " + sign, text.contains(sign), false);
        }
        check.same("the source has signs beyond 127", text.chars().anyMatch(sign -> sign > 127), false);
        check.same("the source joins texts by +", Pattern.compile("\"\\s*\\+|\\+\\s*\"").matcher(text).find(), false);
        Set<String> imports = new TreeSet<>();
        Matcher matcher = Pattern.compile("(?m)^import (.*);$").matcher(text);
        while (matcher.find()) {
            imports.add(matcher.group(1));
        }
        check.same("the imports", imports,
                new TreeSet<>(List.of("java.util.Arrays", "java.util.NoSuchElementException")));
    }

    /** A method goes from a line that ends with a brace to the next one that closes it as far to the left. */
    private static void sizes(String[] lines) {
        for (int k = 0; k < lines.length; k++) {
            String ahead = lines[k].substring(0, lines[k].length() - lines[k].stripLeading().length());
            boolean isHead = lines[k].endsWith("{") && (ahead.length() == 4 || ahead.length() == 8)
                    && !lines[k].contains(" class ");
            int end = k;
            while (isHead && end < lines.length && !lines[end].equals(ahead + "}")) {
                end++;
            }
            check.same("at most 60 lines: " + lines[k].trim(), end - k < 60, true);
        }
    }
}
