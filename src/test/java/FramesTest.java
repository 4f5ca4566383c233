/** Promises 38 to 43 and 50: frames. */
public final class FramesTest {

    private static final Check check = new Check("frames");

    public static void main(String[] args) {
        send();
        sendStates();
        sendIsLimited();
        flip();
        lose();
        tick();
        tickKeepsTheOrderOfArriving();
        take();
        takeThatHoldsByChance();
        badShare();
        check.end();
    }

    /** A disc of a turn of 1024 steps that tells 16 times the place, and 8. */
    private static Ringtrack telling(int place) {
        Ringtrack x = Rings.disc(6, 0);
        tell(x, place);
        return x;
    }

    private static void tell(Ringtrack x, int place) {
        x.power(false);
        for (int k = 0; k < 64 && x.angle() != 16 * place; k++) {
            x.turn(16);
        }
        x.power(true);
    }

    private static void send() {
        Ringtrack none = Rings.ofReflected(2);
        check.unsupported("send(0) without a disc", () -> none.send(0));
        Ringtrack x = telling(0);
        check.same("told()", x.told(), 8);
        check.same("send(1) of 8", x.send(1), 32 * 16 + 6);
        tell(x, 63);
        check.same("told()", x.told(), 1016);
        check.same("send(9) of 1016", x.send(9), 4064 * 16 + 8);
        tell(x, 2);
        check.same("send(9) of 40", x.send(9), 160 * 16 + 4);
        x.power(false);
        check.same("send(9) without power", x.send(9), 160 * 16 + 4);
        check.bad("send(0)", () -> x.send(0));
        check.bad("send(10)", () -> x.send(10));
    }

    private static void sendStates() {
        Ringtrack x = Rings.typedDisc(0, Rings.SIX);
        check.same("send(1) of a new disc", x.send(1), 0);
        x.stick(0, 1, 1);
        x.turn(0);
        check.same("state()", x.state(), 'd');
        check.same("send(1) of 'd'", x.send(1), 33 * 16 + 7);
        x.stick(1, 1, 0);
        x.turn(0);
        check.same("state()", x.state(), 's');
        check.same("send(1) of 's'", x.send(1), 34 * 16 + 8);
    }

    private static void sendIsLimited() {
        Ringtrack x = telling(0);
        for (int k = 1; k <= 9; k++) {
            check.same("send(" + k + ")", x.send(k), 518);
        }
        check.full("send(1) at 9", () -> x.send(1));
        check.bad("send(0) at 9", () -> x.send(0));
        check.same("tick(1)", x.tick(1), 1);
        check.same("send(1) at 8", x.send(1), 518);
        check.full("send(1) at 9 again", () -> x.send(1));
        check.same("lose(9)", x.lose(9), 9);
        check.same("send(1) at none", x.send(1), 518);
    }

    private static void flip() {
        Ringtrack x = telling(0);
        check.missing("flip(0, 16) of none", () -> x.flip(0, 16));
        x.send(1);
        x.send(2);
        check.same("flip(0, 0)", x.flip(0, 0), 519);
        check.same("flip(1, 15)", x.flip(1, 15), 33286);
        check.same("flip(1, 9)", x.flip(1, 9), 32774);
        check.same("flip(1, 15) back", x.flip(1, 15), 6);
        check.bad("flip(0, 16)", () -> x.flip(0, 16));
        check.bad("flip(0, -1)", () -> x.flip(0, -1));
        check.missing("flip(2, 16)", () -> x.flip(2, 16));
        check.missing("flip(-1, 0)", () -> x.flip(-1, 0));
        x.tick(1);
        check.same("flip(0, 1) of the second one", x.flip(0, 1), 4);
        check.missing("flip(1, 1) of one that arrived", () -> x.flip(1, 1));
    }

    private static void lose() {
        Ringtrack x = telling(0);
        check.bad("lose(16)", () -> x.lose(16));
        check.bad("lose(-1)", () -> x.lose(-1));
        check.same("lose(1) of none", x.lose(1), 0);
        x.send(5);
        x.send(4);
        x.send(3);
        x.send(2);
        x.send(1);
        x.flip(0, 15);
        x.flip(2, 0);
        x.flip(3, 15);
        x.flip(4, 4);
        check.same("lose(14)", x.lose(14), 0);
        check.same("lose(15)", x.lose(15), 2);
        check.same("flip(0, 3) of the second one", x.flip(0, 3), 526);
        check.same("flip(1, 0) of the third one", x.flip(1, 0), 518);
        check.same("flip(2, 4) of the last one", x.flip(2, 4), 518);
        check.same("tick(1)", x.tick(1), 1);
        check.same("tick(1)", x.tick(1), 0);
        check.same("tick(1)", x.tick(1), 1);
        check.same("tick(1)", x.tick(1), 1);
        check.same("tick(1)", x.tick(1), 0);
        check.same("lose(1) of those that arrived", x.lose(1), 0);
        check.same("take()", x.take(), 8);
        check.same("take()", x.take(), 8);
        check.same("take()", x.take(), -1);
        check.missing("take() of those lost", () -> x.take());
        check.same("bad()", x.bad(), 1);
    }

    private static void tick() {
        Ringtrack x = telling(0);
        check.bad("tick(0)", () -> x.tick(0));
        check.bad("tick(21)", () -> x.tick(21));
        check.bad("tick(-1)", () -> x.tick(-1));
        check.same("tick(20)", x.tick(20), 0);
        x.send(9);
        x.send(9);
        check.same("tick(8)", x.tick(8), 0);
        x.send(1);
        check.same("tick(1)", x.tick(1), 3);
        check.same("tick(1) behind it", x.tick(1), 0);
        x.send(2);
        x.send(4);
        check.same("tick(3)", x.tick(3), 1);
        check.same("tick(20)", x.tick(20), 1);
    }

    private static void sendFrom(Ringtrack x, int place, int delay) {
        tell(x, place);
        x.send(delay);
    }

    private static void taken(Ringtrack x, int... places) {
        for (int place : places) {
            check.same("take() of the place " + place, x.take(), 16 * place + 8);
        }
        check.missing("take() of no more", () -> x.take());
    }

    private static void tickKeepsTheOrderOfArriving() {
        Ringtrack x = telling(0);
        sendFrom(x, 1, 3);
        sendFrom(x, 2, 1);
        sendFrom(x, 3, 3);
        sendFrom(x, 4, 2);
        check.same("tick(3)", x.tick(3), 4);
        taken(x, 2, 4, 1, 3);
        sendFrom(x, 5, 4);
        x.tick(1);
        sendFrom(x, 6, 3);
        sendFrom(x, 7, 1);
        x.tick(1);
        sendFrom(x, 8, 2);
        sendFrom(x, 9, 1);
        check.same("take() of the place 7", x.take(), 120);
        check.same("tick(20)", x.tick(20), 4);
        taken(x, 9, 5, 6, 8);
    }

    private static void take() {
        Ringtrack x = telling(0);
        check.missing("take() of none", () -> x.take());
        x.send(1);
        check.missing("take() of one under way", () -> x.take());
        x.send(1);
        x.flip(0, 3);
        x.tick(1);
        check.same("take() of a check that does not hold", x.take(), -1);
        check.same("take() of one that holds", x.take(), 8);
        check.same("bad()", x.bad(), 1);
        x.send(1);
        x.flip(0, 15);
        x.tick(1);
        check.same("bad() before it is taken", x.bad(), 1);
        check.same("take() of a number that is not", x.take(), -1);
        check.same("bad()", x.bad(), 2);
        tell(x, 63);
        x.send(1);
        x.tick(1);
        tell(x, 3);
        check.same("take() of the angle then", x.take(), 1016);
        check.missing("take() of no more", () -> x.take());
        check.same("bad()", x.bad(), 2);
    }

    /** The numbers 32 and 97 have the same check. */
    private static void takeThatHoldsByChance() {
        Ringtrack x = telling(0);
        x.send(1);
        x.flip(0, 4);
        check.same("flip(0, 10)", x.flip(0, 10), 97 * 16 + 6);
        x.tick(1);
        check.same("take()", x.take(), 24);
        check.same("bad()", x.bad(), 0);
        check.same("badShare()", x.badShare(), 0.0f);
    }

    private static void badShare() {
        Ringtrack x = telling(0);
        check.missing("badShare() of none", () -> x.badShare());
        x.send(1);
        x.tick(1);
        check.missing("badShare() of none taken", () -> x.badShare());
        x.take();
        check.same("badShare() of a good one", x.badShare(), 0.0f);
        x.send(1);
        x.send(1);
        x.flip(0, 0);
        x.tick(1);
        x.take();
        check.same("badShare() of two", x.badShare(), 0.5f);
        x.take();
        check.same("badShare() of three", x.badShare(), 1.0f / 3.0f);
        x.setDisc(0, 0);
        check.same("badShare() of a new disc", x.badShare(), 1.0f / 3.0f);
    }
}
